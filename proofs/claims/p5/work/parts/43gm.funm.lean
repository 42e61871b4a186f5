/-! the reference's reading, as functions of its state: each follows its method's code -/
def mTapeAt (p : Int32) (m : MT_) : Int32 := if m.size ≤ p then 0 else m.tp p.toNatClampNeg
def isIn_ (v a b : Int32) : Int32 := if v < a then 0 else if b < v then 0 else 1
def spl (a b c d e f g : Int32) : Int64 :=
  let v1 := 27 * (Int32.toInt64 a - 96) + Int32.toInt64 b - 96
  let v2 := if c ≤ 0 then v1 else 27 * v1 + Int32.toInt64 c - 96
  let v3 := if d ≤ 0 then v2 else 27 * v2 + Int32.toInt64 d - 96
  let v4 := if e ≤ 0 then v3 else 27 * v3 + Int32.toInt64 e - 96
  let v5 := if f ≤ 0 then v4 else 27 * v4 + Int32.toInt64 f - 96
  if g ≤ 0 then v5 else 27 * v5 + Int32.toInt64 g - 96
def wof (k : Int32) : Int64 :=
  if k.toInt = 0 then spl 112 101 114 115 111 110 0 else
  if k.toInt = 1 then spl 100 105 115 104 0 0 0 else
  if k.toInt = 2 then spl 115 112 111 105 108 115 0 else
  if k.toInt = 3 then spl 112 108 97 116 101 0 0 else
  if k.toInt = 4 then spl 108 97 119 0 0 0 0 else
  if k.toInt = 5 then spl 110 101 120 116 0 0 0 else
  if k.toInt = 6 then spl 99 104 105 108 100 0 0 else
  if k.toInt = 7 then spl 108 101 97 115 116 0 0 else
  if k.toInt = 8 then spl 100 111 103 115 0 0 0 else
  if k.toInt = 9 then spl 101 97 116 115 0 0 0 else
  if k.toInt = 10 then spl 115 101 114 118 101 100 0 else
  if k.toInt = 11 then spl 114 105 115 101 115 0 0 else
  if k.toInt = 12 then spl 114 101 102 117 115 101 115 else
  if k.toInt = 13 then spl 97 99 99 101 112 116 115 else
  if k.toInt = 14 then spl 100 105 101 115 0 0 0 else
  if k.toInt = 15 then spl 109 101 97 108 0 0 0 else
  if k.toInt = 16 then spl 111 114 0 0 0 0 0 else
  if k.toInt = 17 then spl 97 110 100 0 0 0 0 else
  if k.toInt = 18 then spl 110 111 116 0 0 0 0 else
  if k.toInt = 19 then spl 100 101 97 100 0 0 0 else
  if k.toInt = 20 then spl 114 101 102 117 115 101 100 else
  if k.toInt = 21 then spl 99 108 101 97 110 0 0 else
  if k.toInt = 22 then spl 111 102 0 0 0 0 0 else
  if k.toInt = 23 then spl 104 97 115 0 0 0 0 else
  if k.toInt = 24 then spl 119 97 110 116 115 0 0 else
  if k.toInt = 25 then spl 101 97 116 101 110 0 0 else
  if k.toInt = 26 then spl 104 117 110 103 101 114 0 else
  spl 110 117 109 98 101 114 0
def mIsWord (k : Int32) (m : MT_) : Int32 := if m.kind = 2 then (if lc_ m.word (wof k) = 0 then 1 else 0) else 0
def mIsSign (c : Int32) (m : MT_) : Int32 := if m.kind = 4 then (if m.sign = c then 1 else 0) else 0
def mnlg : Nat → Int32 → MT_ → Int32
  | 0, _, _ => 1
  | n + 1, i, m => if 27 < i then 1 else if lc_ m.word (wof i) = 0 then 0 else mnlg n (i + 1) m
def mnl (i : Int32) (m : MT_) : Int32 := mnlg (29 - i.toNatClampNeg) i m
def mIsName (m : MT_) : Int32 := if m.kind = 2 then mnl 0 m else 0
abbrev MN_ : Type := MT_ × NR_
def mBad (k : Int32) (m : MT_) (n : NR_) : Int32 × MN_ := (0, m, (NR_.w_mplace (NR_.w_mfault n (if m.kind = 1 then 1 else k)) (m.frm)))
def mskg : Nat → MT_ → MT_
  | 0, m => m
  | n + 1, m => if m.size ≤ m.to then m else if m.tp m.to.toNatClampNeg = 32 then mskg n (MT_.w_to m (m.to + 1)) else if m.tp m.to.toNatClampNeg = 10 then mskg n (MT_.w_to m (m.to + 1)) else m
def msk (m : MT_) : MT_ := mskg (941 - m.to.toNatClampNeg) m
def mStep (m : MT_) : MT_ :=
  let d := m.tp m.to.toNatClampNeg
  (MT_.w_to (MT_.w_number (MT_.w_word m (if 7 ≤ m.to - m.frm then m.word else 27 * m.word + Int32.toInt64 d - 96)) (if 3 ≤ m.to - m.frm then m.number else 10 * m.number + d - 48)) (m.to + 1))
def mGood (g lt : Int32) (m : MT_) : Int32 := if g = 0 then 0 else if isLc (m.tp m.to.toNatClampNeg) = lt then 1 else 0
def mrung (lt : Int32) : Nat → Int32 → MT_ → Int32 × MT_
  | 0, g, m => (g, m)
  | n + 1, g, m =>
    if isLc (mTapeAt m.to m) = 0 then (if isDc (mTapeAt m.to m) = 0 then (g, m) else mrung lt n (mGood g lt m) (mStep m))
    else mrung lt n (mGood g lt m) (mStep m)
def mrun (lt g : Int32) (m : MT_) : Int32 × MT_ := mrung lt (941 - m.to.toNatClampNeg) g m
def mGoE (q : Int32 × MT_) (lt : Int32) : MT_ := (MT_.w_kind q.2 (if q.1 = 0 then 1 else if q.2.to - q.2.frm ≤ (if lt = 0 then 3 else 7) then (if lt = 0 then 3 else 2) else 1))
def mGo3 (m : MT_) : MT_ :=
  let lt := isLc (m.tp m.to.toNatClampNeg)
  mGoE (mrun lt 1 (MT_.w_number (MT_.w_word m (0)) (0))) lt
def mSg (c : Int32) : Int32 := if c = 59 then 4 else if c = 60 then 4 else if c = 61 then 4 else if c = 62 then 4 else if c = 40 then 4 else if c = 41 then 4 else 1
def mGo2 (m : MT_) : MT_ :=
  if m.to < m.size then
    let c := m.tp m.to.toNatClampNeg
    if isLc c = 0 then (if isDc c = 0 then (MT_.w_to (MT_.w_sign (MT_.w_kind m (mSg c)) (c)) (m.to + 1)) else mGo3 m) else mGo3 m
  else (MT_.w_kind m (0))
def mGo (m : MT_) : MT_ :=
  let m1 := msk m
  if m1.size ≤ m1.limit then mGo2 (MT_.w_frm m1 (m1.to))
  else if m1.to < m1.limit then mGo2 (MT_.w_frm m1 (m1.to))
  else (MT_.w_kind (MT_.w_frm m1 (m1.limit)) (1))
def mTake (n : NR_) : Int32 × NR_ := (n.taped, (NR_.w_taped n (0)))
def mBegin (a : Int32) (m : MT_) (n : NR_) : MN_ := let q := mTake n; (mGo (MT_.w_to (MT_.w_limit (MT_.w_size m (q.1)) (a)) (0)), (NR_.w_mfault q.2 (0)))
def mReadNumber (a b : Int32) (m : MT_) (n : NR_) : Int32 × MN_ := if m.kind = 3 then (if isIn_ m.number a b = 0 then mBad 2 m n else (1, mGo m, (NR_.w_told n (m.number)))) else mBad 1 m n
def mReadEnd (m : MT_) (n : NR_) : Int32 × MN_ := if mIsSign 59 m = 0 then mBad 1 m n else (1, mGo m, n)
def mfndg (nm : Nat → Int64) (b cnt : Int32) (w : Int64) : Nat → Int32 → Int32
  | 0, _ => -1
  | n + 1, i => if cnt ≤ i then -1 else if lc_ (nm (b + i).toNatClampNeg) w = 0 then i else mfndg nm b cnt w n (i + 1)
def mfnd (nm : Nat → Int64) (b cnt : Int32) (w : Int64) (i : Int32) : Int32 := mfndg nm b cnt w (9 - i.toNatClampNeg) i
def mReadNew (k : Int32) (m : MT_) (n : NR_) : Int32 × MN_ :=
  if mIsName m = 0 then mBad 1 m n
  else if mfnd n.rn 0 (n.rd 0) m.word 0 = -1 then
    (if mfnd n.rn 7 (n.rd 1) m.word 0 = -1 then (1, mGo m, (NR_.w_rn n (up1 n.rn k.toNatClampNeg m.word))) else mBad 3 m n)
  else mBad 3 m n
def mIsOne (b k : Int32) (m : MT_) (n : NR_) : Int32 × MN_ :=
  if mIsName m = 0 then mBad 1 m n
  else
    let q := mfnd n.rn b k m.word 0
    let z := mBad 3 m (NR_.w_told n (q))
    if q = -1 then (if z.1 = 0 then (0, z.2) else (1, z.2)) else (1, m, (NR_.w_told n (q)))
def mReadOne (b k : Int32) (m : MT_) (n : NR_) : Int32 × MN_ := let q := mIsOne b k m n; if q.1 = 0 then (0, q.2) else (1, mGo q.2.1, q.2.2)
def mReadFirst (j k : Int32) (m : MT_) (n : NR_) : Int32 × MN_ := if n.rd j.toNatClampNeg = k then mBad 4 m n else (1, mGo m, n)
def mPut (k g : Int32) (n : NR_) : Int32 × NR_ := if g = 0 then (g, n) else (g, (NR_.w_rd n (up1 n.rd k.toNatClampNeg n.told)))
def mInc (k : Nat) (n : NR_) : NR_ := (NR_.w_rd n (up1 n.rd k (n.rd k + 1)))
def mReadPerson2 (p : Int32) (m : MT_) (n : NR_) : Int32 × MN_ :=
  let n5 := (NR_.w_rd n (up1 n.rd (11 + p).toNatClampNeg (-1)))
  if mIsWord 22 m = 0 then (1, m, mInc 0 n5)
  else
    let q7 := mReadOne 0 p (mGo m) n5
    let q8 := mPut (11 + p) q7.1 q7.2.2
    if q8.1 = 0 then (0, q7.2.1, q8.2) else (1, q7.2.1, mInc 0 q8.2)
def mReadPerson (m : MT_) (n : NR_) : Int32 × MN_ :=
  let q1 := mReadFirst 0 7 m n
  if q1.1 = 0 then (0, q1.2)
  else
    let p := q1.2.2.rd 0
    let q2 := mReadNew p q1.2.1 q1.2.2
    if q2.1 = 0 then (0, q2.2)
    else
      let q3 := mReadNumber 0 20 q2.2.1 q2.2.2
      let q4 := mPut (4 + p) q3.1 q3.2.2
      if q4.1 = 0 then (0, q3.2.1, q4.2) else mReadPerson2 p q3.2.1 q4.2
def mReadDish (m : MT_) (n : NR_) : Int32 × MN_ :=
  let q1 := mReadFirst 1 6 m n
  if q1.1 = 0 then (0, q1.2)
  else
    let d := q1.2.2.rd 1
    let q2 := mReadNew (7 + d) q1.2.1 q1.2.2
    if q2.1 = 0 then (0, q2.2)
    else
      let q3 := mReadNumber 0 99 q2.2.1 q2.2.2
      let q4 := mPut (18 + d) q3.1 q3.2.2
      if q4.1 = 0 then (0, q3.2.1, q4.2)
      else if mIsWord 2 q3.2.1 = 0 then (1, q3.2.1, mInc 1 q4.2)
      else
        let q5 := mReadNumber 1 9 (mGo q3.2.1) q4.2
        let q6 := mPut (24 + d) q5.1 q5.2.2
        if q6.1 = 0 then (0, q5.2.1, q6.2) else (1, q5.2.1, mInc 1 q6.2)
def mReadPlate (m : MT_) (n : NR_) : Int32 × MN_ :=
  let q1 := mReadOne 0 (n.rd 0) (mGo m) n
  if q1.1 = 0 then (0, q1.2)
  else
    let k1 := 30 + 6 * q1.2.2.told
    let q2 := mIsOne 7 (q1.2.2.rd 1) q1.2.1 q1.2.2
    if q2.1 = 0 then (0, q2.2)
    else
      let k := k1 + q2.2.2.told
      if q2.2.2.rd k.toNatClampNeg ≤ 0 then
        let q3 := mReadNumber 1 40 (mGo q2.2.1) q2.2.2
        let q4 := mPut k q3.1 q3.2.2
        (q4.1, q3.2.1, q4.2)
      else mBad 3 q2.2.1 q2.2.2
def mlwg : Nat → Int32 → MT_ → Int32
  | 0, w, _ => w
  | n + 1, w, m => if 7 < w then w else if mIsWord w m = 0 then mlwg n (w + 1) m else w
def mlw (w : Int32) (m : MT_) : Int32 := mlwg (9 - w.toNatClampNeg) w m
def mRl (m : MT_) (n : NR_) : Int32 × MN_ := (mlw 5 (mGo m), mGo m, (NR_.w_hl n (1)))
def mReadLaw (m : MT_) (n : NR_) : Int32 × MN_ :=
  if n.hl = 0 then
    let q := mRl m n
    if q.1 ≤ 7 then (1, mGo q.2.1, (NR_.w_rd q.2.2 (up1 q.2.2.rd 2 (q.1 - 5)))) else mBad 1 q.2.1 q.2.2
  else mBad 3 m n
def mReadDogs (m : MT_) (n : NR_) : Int32 × MN_ :=
  if n.hd = 0 then
    let q3 := mReadNumber 0 9 (mGo m) (NR_.w_hd n (1))
    let q4 := mPut 3 q3.1 q3.2.2
    (q4.1, q3.2.1, q4.2)
  else mBad 3 m n
def mReadLine (m : MT_) (n : NR_) : Int32 × MN_ :=
  if mIsWord 0 m = 0 then
    (if mIsWord 1 m = 0 then
      (if mIsWord 3 m = 0 then
        (if mIsWord 4 m = 0 then (if mIsWord 8 m = 0 then mBad 1 m n else mReadDogs m n) else mReadLaw m n)
      else mReadPlate m n)
    else mReadDish m n)
  else mReadPerson m n
def mzrg : Nat → Int32 → NR_ → NR_
  | 0, _, n => n
  | k + 1, i, n => if 72 ≤ i then n else mzrg k (i + 1) (NR_.w_rd n (up1 n.rd i.toNatClampNeg 0))
def mzr (i : Int32) (n : NR_) : NR_ := mzrg (73 - i.toNatClampNeg) i n
def mtl : Nat → Int32 → MN_ → Int32 × MN_
  | 0, i, s => (i, s)
  | k + 1, i, s => if s.1.kind = 0 then (i, s) else
      let q := mReadLine s.1 s.2
      if q.1 = 0 then (-1 - q.2.2.mplace, q.2)
      else
        let q2 := mReadEnd q.2.1 q.2.2
        if q2.1 = 0 then (-1 - q2.2.2.mplace, q2.2) else mtl k (i + 1) q2.2
def mTz (m : MT_) (n : NR_) : MN_ := let q := mBegin 900 m n; (q.1, mzr 0 q.2)
def mTbStart (m : MT_) (n : NR_) : MN_ := let q := mTz m n; (q.1, (NR_.w_hd (NR_.w_hl q.2 (0)) (0)))
def mTable (m : MT_) (n : NR_) : Int32 := (mtl 941 0 (mTbStart m n)).1
def mPutB (v : Int32) (m : MT_) (n : NR_) : MN_ := ((MT_.w_tp m (up1 m.tp n.taped.toNatClampNeg v)), (NR_.w_taped n (n.taped + 1)))
def mCome (w : Int32) (m : MT_) (n : NR_) : MN_ :=
  let q1 := mPutB ((Int32.toUInt32 w >>> (Int32.toUInt32 24 &&& Int32.toUInt32 31)).toInt32 &&& 255) m n
  let q2 := mPutB ((Int32.toUInt32 w >>> (Int32.toUInt32 16 &&& Int32.toUInt32 31)).toInt32 &&& 255) q1.1 q1.2
  let q3 := mPutB ((Int32.toUInt32 w >>> (Int32.toUInt32 8 &&& Int32.toUInt32 31)).toInt32 &&& 255) q2.1 q2.2
  mPutB ((Int32.toUInt32 w >>> (Int32.toUInt32 0 &&& Int32.toUInt32 31)).toInt32 &&& 255) q3.1 q3.2
def mFeed (a b c d e : Int32) (m : MT_) (n : NR_) : Int32 × MN_ :=
  if n.taped + 20 ≤ 940 then
    let q1 := mCome a m n
    let q2 := mCome b q1.1 q1.2
    let q3 := mCome c q2.1 q2.2
    let q4 := mCome d q3.1 q3.2
    let q5 := mCome e q4.1 q4.2
    (q5.2.taped, q5)
  else (-1, m, n)
/-! loops opened once -/
theorem mnl_eq {i : Int32} {m : MT_} (r : Rg 0 28 i) : mnl i m = if 27 < i then 1 else if lc_ m.word (wof i) = 0 then 0 else mnl (i + 1) m := by
  have h1 := nn_1 r (by decide)
  have h2 := nn_le (h := 28) r
  unfold mnl
  rw [h1, show 29 - i.toNatClampNeg = (29 - (i.toNatClampNeg + 1)) + 1 by omega]
  rfl
theorem msk_eq {m : MT_} {t : Int32} (ht : m.to = t) (r : Rg 0 940 t) : msk m = if m.size ≤ m.to then m else if m.tp m.to.toNatClampNeg = 32 then msk (MT_.w_to m (m.to + 1)) else if m.tp m.to.toNatClampNeg = 10 then msk (MT_.w_to m (m.to + 1)) else m := by
  subst ht
  have h1 := nn_1 r (by decide)
  have h2 := nn_le (h := 940) r
  have h3 : (MT_.w_to m (m.to + 1)).to = m.to + 1 := rfl
  unfold msk
  rw [h3, h1, show 941 - m.to.toNatClampNeg = (941 - (m.to.toNatClampNeg + 1)) + 1 by omega]
  rfl
theorem mrun_eq {lt g : Int32} {m : MT_} {t : Int32} (ht : m.to = t) (r : Rg 0 940 t) : mrun lt g m =
    if isLc (mTapeAt m.to m) = 0 then (if isDc (mTapeAt m.to m) = 0 then (g, m) else mrun lt (mGood g lt m) (mStep m))
    else mrun lt (mGood g lt m) (mStep m) := by
  subst ht
  have h1 := nn_1 r (by decide)
  have h2 := nn_le (h := 940) r
  have h3 : (mStep m).to = m.to + 1 := rfl
  unfold mrun
  rw [h3, h1, show 941 - m.to.toNatClampNeg = (941 - (m.to.toNatClampNeg + 1)) + 1 by omega]
  rfl
theorem mfnd_eq {nm : Nat → Int64} {b cnt : Int32} {w : Int64} {i : Int32} (r : Rg 0 8 i) : mfnd nm b cnt w i = if cnt ≤ i then -1 else if lc_ (nm (b + i).toNatClampNeg) w = 0 then i else mfnd nm b cnt w (i + 1) := by
  have h1 := nn_1 r (by decide)
  have h2 := nn_le (h := 8) r
  unfold mfnd
  rw [h1, show 9 - i.toNatClampNeg = (9 - (i.toNatClampNeg + 1)) + 1 by omega]
  rfl
theorem mlw_eq {w : Int32} {m : MT_} (r : Rg 0 8 w) : mlw w m = if 7 < w then w else if mIsWord w m = 0 then mlw (w + 1) m else w := by
  have h1 := nn_1 r (by decide)
  have h2 := nn_le (h := 8) r
  unfold mlw
  rw [h1, show 9 - w.toNatClampNeg = (9 - (w.toNatClampNeg + 1)) + 1 by omega]
  rfl
theorem mzr_eq {i : Int32} {n : NR_} (r : Rg 0 72 i) : mzr i n = if 72 ≤ i then n else mzr (i + 1) (NR_.w_rd n (up1 n.rd i.toNatClampNeg 0)) := by
  have h1 := nn_1 r (by decide)
  have h2 := nn_le (h := 72) r
  unfold mzr
  rw [h1, show 73 - i.toNatClampNeg = (73 - (i.toNatClampNeg + 1)) + 1 by omega]
  rfl
theorem mtl_eq {k : Nat} {i : Int32} {s : MN_} : mtl (k + 1) i s = if s.1.kind = 0 then (i, s) else if (mReadLine s.1 s.2).1 = 0 then (-1 - (mReadLine s.1 s.2).2.2.mplace, (mReadLine s.1 s.2).2)
    else if (mReadEnd (mReadLine s.1 s.2).2.1 (mReadLine s.1 s.2).2.2).1 = 0 then (-1 - (mReadEnd (mReadLine s.1 s.2).2.1 (mReadLine s.1 s.2).2.2).2.2.mplace, (mReadEnd (mReadLine s.1 s.2).2.1 (mReadLine s.1 s.2).2.2).2) else mtl k (i + 1) (mReadEnd (mReadLine s.1 s.2).2.1 (mReadLine s.1 s.2).2.2).2 := rfl
