/-! a BOOK: what the reference's code says -/
def mbwg : Nat → Int32 → MT_ → Int32
  | 0, w, _ => w
  | n + 1, w, m => if 14 < w then w else if mIsWord w m = 0 then mbwg n (w + 1) m else w
def mbw (w : Int32) (m : MT_) : Int32 := mbwg (16 - w.toNatClampNeg) w m
theorem mbw_eq {w : Int32} {m : MT_} (r : Rg 0 15 w) : mbw w m = if 14 < w then w else if mIsWord w m = 0 then mbw (w + 1) m else w := by
  have h1 := nn_1 r (by decide)
  have h2 := nn_le (h := 15) r
  unfold mbw
  rw [h1, show 16 - w.toNatClampNeg = (16 - (w.toNatClampNeg + 1)) + 1 by omega]
  rfl
def mNum (z : Int32 × MN_) : Int32 × MN_ := if z.1 = 0 then (0, z.2) else (1, z.2)
/-- behind a word c of one that eats or is served -/
def mDo3 (c : Int32) (v : NV_) (z : NW_) (m : MT_) (n : NR_) : Int32 × MN_ :=
  if mIsName m = 0 then mBad 1 m n else if mfnd v.nv 7 (z.nw 1) m.word 0 = -1 then mBad 3 m n
  else if c - 9 = 0 then mNum (mReadNumber 1 20 (mGo m) n) else mNum (mReadNumber 1 40 (mGo m) n)
def mDo2 (c : Int32) (v : NV_) (z : NW_) (m : MT_) (n : NR_) : Int32 × MN_ :=
  if c ≤ 14 then (if c - 9 ≤ 1 then mDo3 c v z (mGo m) n else (1, mGo m, n)) else mBad 1 m n
def mDoes (v : NV_) (z : NW_) (m : MT_) (n : NR_) : Int32 × MN_ := mDo2 (mbw 9 m) v z m n
def mBk4 (q : Int32 × MN_) : Int32 × MN_ := if q.1 = 0 then (0, q.2) else if (mReadEnd q.2.1 q.2.2).1 = 0 then (0, (mReadEnd q.2.1 q.2.2).2) else (1, (mReadEnd q.2.1 q.2.2).2)
def mBk5 (q : Int32 × MN_) : Int32 × MN_ := if q.1 = 0 then (0, q.2) else mReadEnd q.2.1 q.2.2
def mBk3 (c : Int32) (v : NV_) (z : NW_) (y : YT_) (m : MT_) (n : NR_) : Int32 × MN_ :=
  if y.blm = 40 then mBad 4 m n else if c = 0 then mBk4 (mDoes v z (mGo m) n) else mBk5 (mReadNumber 1 60 (mGo m) n)
def mBkLine (v : NV_) (z : NW_) (y : YT_) (m : MT_) (n : NR_) : Int32 × MN_ :=
  if mIsWord 15 m = 0 then (if mIsName m = 0 then mBad 1 m n else if mfnd v.nv 0 (z.nw 0) m.word 0 = -1 then mBad 3 m n else mBk3 (mIsWord 15 m) v z y m n)
  else mBk3 (mIsWord 15 m) v z y m n
/-- the FAULT behind the LINES from here on -/
def mBkg (v : NV_) (z : NW_) : Nat → YT_ → MT_ → NR_ → Int32
  | 0, _, _, n => n.mfault
  | f + 1, y, m, n => if m.kind = 0 then n.mfault else if (mBkLine v z y m n).1 = 0 then (mBkLine v z y m n).2.2.mfault
    else mBkg v z f (YT_.w_blm y (y.blm + 1)) (mBkLine v z y m n).2.1 (mBkLine v z y m n).2.2
def mBkl (v : NV_) (z : NW_) (y : YT_) (m : MT_) (n : NR_) : Int32 := mBkg v z (42 - y.blm.toNatClampNeg) y m n
theorem mBkl_eq {v : NV_} {z : NW_} {y : YT_} {m : MT_} {n : NR_} (r : Rg 0 41 y.blm) : mBkl v z y m n = if m.kind = 0 then n.mfault else if (mBkLine v z y m n).1 = 0 then (mBkLine v z y m n).2.2.mfault
    else mBkl v z (YT_.w_blm y (y.blm + 1)) (mBkLine v z y m n).2.1 (mBkLine v z y m n).2.2 := by
  have h1 := nn_1 r (by decide)
  have h2 := nn_le (h := 41) r
  have e : (YT_.w_blm y (y.blm + 1)).blm.toNatClampNeg = y.blm.toNatClampNeg + 1 := h1
  unfold mBkl
  rw [e, show 42 - y.blm.toNatClampNeg = (42 - (y.blm.toNatClampNeg + 1)) + 1 by omega]
  rfl
def mBookF (a : Int32) (v : NV_) (z : NW_) (y : YT_) (m : MT_) (n : NR_) : Int32 := if isIn_ a 0 1 = 0 then n.mfault else mBkl v z (YT_.w_blm y (0)) (mBegin 400 m n).1 (mBegin 400 m n).2
def mtlF : Nat → Int32 → MN_ → Int32
  | 0, _, s => s.2.mfault
  | k + 1, i, s => if s.1.kind = 0 then s.2.mfault else
      let q := mReadLine s.1 s.2
      if q.1 = 0 then q.2.2.mfault
      else
        let q2 := mReadEnd q.2.1 q.2.2
        if q2.1 = 0 then q2.2.2.mfault else mtlF k (i + 1) q2.2
theorem mtlF_eq {k : Nat} {i : Int32} {s : MN_} : mtlF (k + 1) i s = if s.1.kind = 0 then s.2.mfault else
      if (mReadLine s.1 s.2).1 = 0 then (mReadLine s.1 s.2).2.2.mfault
      else if (mReadEnd (mReadLine s.1 s.2).2.1 (mReadLine s.1 s.2).2.2).1 = 0 then (mReadEnd (mReadLine s.1 s.2).2.1 (mReadLine s.1 s.2).2.2).2.2.mfault else mtlF k (i + 1) (mReadEnd (mReadLine s.1 s.2).2.1 (mReadLine s.1 s.2).2.2).2 := rfl
def mTableF (m : MT_) (n : NR_) : Int32 := mtlF 941 0 (mTbStart m n)
def mSentF (v : NV_) (z : NW_) (m : MT_) (n : NR_) (q : QT_) : Int32 := if (mSenRead v z m n q).1 = 0 then (mSenRead v z m n q).2.2.1.mfault
  else if (mSenRead v z m n q).2.1.kind = 0 then (mSenRead v z m n q).2.2.1.mfault else (mBad 1 (mSenRead v z m n q).2.1 (mSenRead v z m n q).2.2.1).2.2.mfault
