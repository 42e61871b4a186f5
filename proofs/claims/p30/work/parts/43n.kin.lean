/-! how near kin are: what the code of both says -/
def sbg (par : Nat → Int32) : Nat → Int32 → Int32 → Int32 → Int32
  | 0, _, _, s => s
  | f + 1, o, t, s => if o = t then s else if 14 ≤ s then s else if par (if o < t then t else o).toNatClampNeg = -1 then -1 else sbg par f (par (if o < t then t else o).toNatClampNeg) (if t < o then t else o) (s + 1)
def sb (par : Nat → Int32) (o t s : Int32) : Int32 := sbg par (15 - s.toNatClampNeg) o t s
theorem sb_eq {par : Nat → Int32} {o t s : Int32} (r : Rg 0 14 s) : sb par o t s = if o = t then s else if 14 ≤ s then s else if par (if o < t then t else o).toNatClampNeg = -1 then -1 else sb par (par (if o < t then t else o).toNatClampNeg) (if t < o then t else o) (s + 1) := by
  have h1 := nn_1 r (by decide)
  have h2 := nn_le (h := 14) r
  unfold sb
  rw [h1, show 15 - s.toNatClampNeg = (15 - (s.toNatClampNeg + 1)) + 1 by omega]
  rfl
def fSteps (p q : Int32) (b : TB_) : Int32 := sb b.par p q 0
def fHasP (p : Int32) (b : TB_) : Int32 := if p < 0 then 0 else if b.persons ≤ p then 0 else 1
def fKin (p q : Int32) (b : TB_) : Int32 := if fHasP p b = 0 then -1 else if fHasP q b = 0 then -1 else fSteps p q b
def mHas (s k : Int32) : Int32 := if s >>> (k &&& 31) &&& 1 = 1 then 1 else 0
def mIsPerson (p : Int32) (w : NW_) : Int32 := isIn_ p 0 (w.nw 0 - 1)
def mk1g (nw : Nat → Int32) (s : Int32) : Nat → Int32 → Int32 → Int32
  | 0, _, m => m
  | f + 1, a, m => if nw 0 ≤ a then m else if nw (11 + a).toNatClampNeg = -1 then mk1g nw s f (a + 1) m
    else if mHas s a = 0 then (if mHas s (nw (11 + a).toNatClampNeg) = 0 then mk1g nw s f (a + 1) m else mk1g nw s f (a + 1) (m ||| 1 <<< (a &&& 31)))
    else if mHas s (nw (11 + a).toNatClampNeg) = 0 then mk1g nw s f (a + 1) (m ||| 1 <<< (nw (11 + a).toNatClampNeg &&& 31)) else mk1g nw s f (a + 1) (m ||| 1 <<< (nw (11 + a).toNatClampNeg &&& 31) ||| 1 <<< (a &&& 31))
def mk1 (nw : Nat → Int32) (s a m : Int32) : Int32 := mk1g nw s (8 - a.toNatClampNeg) a m
theorem mk1_eq {nw : Nat → Int32} {s a m : Int32} (r : Rg 0 7 a) : mk1 nw s a m = if nw 0 ≤ a then m else if nw (11 + a).toNatClampNeg = -1 then mk1 nw s (a + 1) m
    else if mHas s a = 0 then (if mHas s (nw (11 + a).toNatClampNeg) = 0 then mk1 nw s (a + 1) m else mk1 nw s (a + 1) (m ||| 1 <<< (a &&& 31)))
    else if mHas s (nw (11 + a).toNatClampNeg) = 0 then mk1 nw s (a + 1) (m ||| 1 <<< (nw (11 + a).toNatClampNeg &&& 31)) else mk1 nw s (a + 1) (m ||| 1 <<< (nw (11 + a).toNatClampNeg &&& 31) ||| 1 <<< (a &&& 31)) := by
  have h1 := nn_1 r (by decide)
  have h2 := nn_le (h := 7) r
  unfold mk1
  rw [h1, show 8 - a.toNatClampNeg = (8 - (a.toNatClampNeg + 1)) + 1 by omega]
  rfl
def mk2g (nw : Nat → Int32) (q : Int32) : Nat → Int32 → Int32 → Int32
  | 0, _, _ => -1
  | f + 1, k, s => if 7 ≤ k then -1 else if mHas s q = 0 then mk2g nw q f (k + 1) (mk1 nw s 0 s) else k
def mk2 (nw : Nat → Int32) (q k s : Int32) : Int32 := mk2g nw q (8 - k.toNatClampNeg) k s
theorem mk2_eq {nw : Nat → Int32} {q k s : Int32} (r : Rg 0 7 k) : mk2 nw q k s = if 7 ≤ k then -1 else if mHas s q = 0 then mk2 nw q (k + 1) (mk1 nw s 0 s) else k := by
  have h1 := nn_1 r (by decide)
  have h2 := nn_le (h := 7) r
  unfold mk2
  rw [h1, show 8 - k.toNatClampNeg = (8 - (k.toNatClampNeg + 1)) + 1 by omega]
  rfl
def mKin (p q : Int32) (w : NW_) : Int32 := if mIsPerson p w = 0 then -1 else if mIsPerson q w = 0 then -1 else mk2 w.nw q 0 (1 <<< (p &&& 31))
