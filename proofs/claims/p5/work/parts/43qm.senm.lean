/-! a SENTENCE: what the reference's code says -/
abbrev M3_ : Type := MT_ × NR_ × QT_
def mBadQ (k : Int32) (m : MT_) (n : NR_) (q : QT_) : Int32 × M3_ := ((mBad k m n).1, (mBad k m n).2.1, (mBad k m n).2.2, q)
def mNamed (b k : Int32) (v : NV_) (m : MT_) (n : NR_) : Int32 × MN_ :=
  if mIsName m = 0 then mBad 1 m n
  else if mfnd v.nv b k m.word 0 = -1 then mBad 3 m (NR_.w_told n (mfnd v.nv b k m.word 0)) else (1, mGo m, NR_.w_told n (mfnd v.nv b k m.word 0))
def mOf2 (z : Int32 × MN_) (q : QT_) : Int32 × M3_ := if z.1 = 0 then (0, z.2.1, z.2.2, q) else (1, z.2.1, z.2.2, q)
def mOf (w : Int32) (v : NV_) (z : NW_) (m : MT_) (n : NR_) (q : QT_) : Int32 × M3_ :=
  if w = 22 then mOf2 (mNamed 0 (z.nw 0) v m n) q else mOf2 (mNamed 7 (z.nw 1) v m n) q
def mCmp2 (m : MT_) (n : NR_) (q : QT_) : Int32 × M3_ := mOf2 (mReadNumber 0 999 (mGo m) n) q
def mCmp (m : MT_) (n : NR_) (q : QT_) : Int32 × M3_ :=
  if mIsSign 60 m = 0 then (if mIsSign 61 m = 0 then (if mIsSign 62 m = 0 then mBadQ 1 m n q else mCmp2 m n q) else mCmp2 m n q) else mCmp2 m n q
def mwwg : Nat → Int32 → MT_ → Int32
  | 0, w, _ => w
  | n + 1, w, m => if 27 < w then w else if mIsWord w m = 0 then mwwg n (w + 1) m else w
def mww (w : Int32) (m : MT_) : Int32 := mwwg (29 - w.toNatClampNeg) w m
theorem mww_eq {w : Int32} {m : MT_} (r : Rg 0 28 w) : mww w m = if 27 < w then w else if mIsWord w m = 0 then mww (w + 1) m else w := by
  have h1 := nn_1 r (by decide)
  have h2 := nn_le (h := 28) r
  unfold mww
  rw [h1, show 29 - w.toNatClampNeg = (29 - (w.toNatClampNeg + 1)) + 1 by omega]
  rfl
/-- ONES that are joined by the word k -/
def mLp (rd : MT_ → NR_ → QT_ → Int32 × M3_) (k : Int32) : Nat → MT_ → NR_ → QT_ → Int32 × M3_
  | 0, m, n, q => (1, m, n, q)
  | f + 1, m, n, q => if mIsWord k m = 0 then (1, m, n, q) else if (rd (mGo m) n q).1 = 0 then (0, (rd (mGo m) n q).2)
    else mLp rd k f (rd (mGo m) n q).2.1 (rd (mGo m) n q).2.2.1 (rd (mGo m) n q).2.2.2
theorem mLp_eq {rd : MT_ → NR_ → QT_ → Int32 × M3_} {k : Int32} {f : Nat} {m : MT_} {n : NR_} {q : QT_} : mLp rd k (f + 1) m n q = if mIsWord k m = 0 then (1, m, n, q) else if (rd (mGo m) n q).1 = 0 then (0, (rd (mGo m) n q).2)
    else mLp rd k f (rd (mGo m) n q).2.1 (rd (mGo m) n q).2.2.1 (rd (mGo m) n q).2.2.2 := rfl
def mAndW (rd : MT_ → NR_ → QT_ → Int32 × M3_) (m : MT_) (n : NR_) (q : QT_) : Int32 × M3_ := if (rd m n q).1 = 0 then (0, (rd m n q).2) else mLp rd 17 21 (rd m n q).2.1 (rd m n q).2.2.1 (rd m n q).2.2.2
def mOrW (rd : MT_ → NR_ → QT_ → Int32 × M3_) (m : MT_) (n : NR_) (q : QT_) : Int32 × M3_ := if (mAndW rd m n q).1 = 0 then (0, (mAndW rd m n q).2) else mLp (mAndW rd) 16 21 (mAndW rd m n q).2.1 (mAndW rd m n q).2.2.1 (mAndW rd m n q).2.2.2
/-- behind the first TOKEN of a ONE: no more may lie within -/
def mSd0 (o c : Int32) (m : MT_) (n : NR_) (q : QT_) : Int32 × M3_ := if o = 0 then (if c ≤ 27 then mBadQ 4 m n q else mBadQ 1 m n q) else mBadQ 4 m n q
/-- what lies within: br behind a bracket, nt behind 'not' -/
def mSd2 (br nt : MT_ → NR_ → QT_ → Int32 × M3_) (v : NV_) (z : NW_) (o c : Int32) (m : MT_) (n : NR_) (q : QT_) : Int32 × M3_ :=
  if q.om = 20 then mBadQ 4 m n q
  else if o = 0 then
    (if c = 18 then nt (mGo m) n (QT_.w_om q (q.om + 1))
    else if 22 ≤ c then (if 24 ≤ c then mCmp (mGo m) n (QT_.w_om q (q.om + 1)) else mOf c v z (mGo m) n (QT_.w_om q (q.om + 1)))
    else (1, mGo m, n, QT_.w_om q (q.om + 1)))
  else br (mGo m) n (QT_.w_om q (q.om + 1))
def mSd1 (br nt : MT_ → NR_ → QT_ → Int32 × M3_) (v : NV_) (z : NW_) (o c : Int32) (m : MT_) (n : NR_) (q : QT_) : Int32 × M3_ :=
  if o = 0 then (if c ≤ 27 then mSd2 br nt v z o c m n q else mBadQ 1 m n q) else mSd2 br nt v z o c m n q
def mBrW (orr : MT_ → NR_ → QT_ → Int32 × M3_) (m : MT_) (n : NR_) (q : QT_) : Int32 × M3_ :=
  if (orr m n q).1 = 0 then (0, (orr m n q).2) else if mIsSign 41 (orr m n q).2.1 = 0 then mBadQ 1 (orr m n q).2.1 (orr m n q).2.2.1 (orr m n q).2.2.2 else (1, mGo (orr m n q).2.1, (orr m n q).2.2)
def mNtW (rd : MT_ → NR_ → QT_ → Int32 × M3_) (m : MT_) (n : NR_) (q : QT_) : Int32 × M3_ := if (rd m n q).1 = 0 then (0, (rd m n q).2) else (1, (rd m n q).2)
def mSaid : Nat → NV_ → NW_ → MT_ → NR_ → QT_ → Int32 × M3_
  | 0, _, _, m, n, q => mSd0 (mIsSign 40 m) (mww 18 m) m n q
  | k + 1, v, z, m, n, q => mSd1 (mBrW (mOrW (mSaid k v z))) (mNtW (mSaid k v z)) v z (mIsSign 40 m) (mww 18 m) m n q
def mAndK (k : Nat) (v : NV_) (z : NW_) (m : MT_) (n : NR_) (q : QT_) : Int32 × M3_ := if (mSaid k v z m n q).1 = 0 then (0, (mSaid k v z m n q).2) else mLp (mSaid k v z) 17 21 (mSaid k v z m n q).2.1 (mSaid k v z m n q).2.2.1 (mSaid k v z m n q).2.2.2
def mOrK (k : Nat) (v : NV_) (z : NW_) (m : MT_) (n : NR_) (q : QT_) : Int32 × M3_ := if (mAndK k v z m n q).1 = 0 then (0, (mAndK k v z m n q).2) else mLp (mAndK k v z) 16 21 (mAndK k v z m n q).2.1 (mAndK k v z m n q).2.2.1 (mAndK k v z m n q).2.2.2
def mBrK (k : Nat) (v : NV_) (z : NW_) (m : MT_) (n : NR_) (q : QT_) : Int32 × M3_ :=
  if (mOrK k v z m n q).1 = 0 then (0, (mOrK k v z m n q).2) else if mIsSign 41 (mOrK k v z m n q).2.1 = 0 then mBadQ 1 (mOrK k v z m n q).2.1 (mOrK k v z m n q).2.2.1 (mOrK k v z m n q).2.2.2 else (1, mGo (mOrK k v z m n q).2.1, (mOrK k v z m n q).2.2)
def mNtK (k : Nat) (v : NV_) (z : NW_) (m : MT_) (n : NR_) (q : QT_) : Int32 × M3_ := if (mSaid k v z m n q).1 = 0 then (0, (mSaid k v z m n q).2) else (1, (mSaid k v z m n q).2)
theorem mSaid_z {v : NV_} {z : NW_} {m : MT_} {n : NR_} {q : QT_} : mSaid 0 v z m n q = mSd0 (mIsSign 40 m) (mww 18 m) m n q := rfl
theorem mSaid_s (k : Nat) {v : NV_} {z : NW_} {m : MT_} {n : NR_} {q : QT_} : mSaid (k + 1) v z m n q = mSd1 (mBrK k v z) (mNtK k v z) v z (mIsSign 40 m) (mww 18 m) m n q := rfl
theorem mSaid_k1 {v : NV_} {z : NW_} {m : MT_} {n : NR_} {q : QT_} : mSaid 1 v z m n q = mSd1 (mBrK 0 v z) (mNtK 0 v z) v z (mIsSign 40 m) (mww 18 m) m n q := mSaid_s 0
theorem mSaid_k2 {v : NV_} {z : NW_} {m : MT_} {n : NR_} {q : QT_} : mSaid 2 v z m n q = mSd1 (mBrK 1 v z) (mNtK 1 v z) v z (mIsSign 40 m) (mww 18 m) m n q := mSaid_s 1
theorem mSaid_k3 {v : NV_} {z : NW_} {m : MT_} {n : NR_} {q : QT_} : mSaid 3 v z m n q = mSd1 (mBrK 2 v z) (mNtK 2 v z) v z (mIsSign 40 m) (mww 18 m) m n q := mSaid_s 2
theorem mSaid_k4 {v : NV_} {z : NW_} {m : MT_} {n : NR_} {q : QT_} : mSaid 4 v z m n q = mSd1 (mBrK 3 v z) (mNtK 3 v z) v z (mIsSign 40 m) (mww 18 m) m n q := mSaid_s 3
theorem mSaid_k5 {v : NV_} {z : NW_} {m : MT_} {n : NR_} {q : QT_} : mSaid 5 v z m n q = mSd1 (mBrK 4 v z) (mNtK 4 v z) v z (mIsSign 40 m) (mww 18 m) m n q := mSaid_s 4
theorem mSaid_k6 {v : NV_} {z : NW_} {m : MT_} {n : NR_} {q : QT_} : mSaid 6 v z m n q = mSd1 (mBrK 5 v z) (mNtK 5 v z) v z (mIsSign 40 m) (mww 18 m) m n q := mSaid_s 5
theorem mSaid_k7 {v : NV_} {z : NW_} {m : MT_} {n : NR_} {q : QT_} : mSaid 7 v z m n q = mSd1 (mBrK 6 v z) (mNtK 6 v z) v z (mIsSign 40 m) (mww 18 m) m n q := mSaid_s 6
theorem mSaid_k8 {v : NV_} {z : NW_} {m : MT_} {n : NR_} {q : QT_} : mSaid 8 v z m n q = mSd1 (mBrK 7 v z) (mNtK 7 v z) v z (mIsSign 40 m) (mww 18 m) m n q := mSaid_s 7
def mSenRead (v : NV_) (z : NW_) (m : MT_) (n : NR_) (q : QT_) : Int32 × M3_ := mOrK 8 v z (mBegin 200 m n).1 (mBegin 200 m n).2 (QT_.w_om q (0))
def mSent (v : NV_) (z : NW_) (m : MT_) (n : NR_) (q : QT_) : Int32 := if (mSenRead v z m n q).1 = 0 then -1 - (mSenRead v z m n q).2.2.1.mplace
  else if (mSenRead v z m n q).2.1.kind = 0 then (mSenRead v z m n q).2.2.2.om else -1 - (mBad 1 (mSenRead v z m n q).2.1 (mSenRead v z m n q).2.2.1).2.2.mplace
