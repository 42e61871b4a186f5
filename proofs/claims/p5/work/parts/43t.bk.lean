/-! a BOOK: what the class's code says -/
abbrev TK_ : Type := TP_ × KP_
def fMost (c : Int32) : Int32 := if c.toInt = 10 then 20 else if c.toInt = 11 then 40 else if c.toInt = 16 then 60 else 0
def fAct4 (c : Int32) (t : TP_) : Int32 × TP_ := if fMost c = 0 then (1, t) else if (fTakeNumber 1 (fMost c) t).1 = -1 then (0, (fTakeNumber 1 (fMost c) t).2) else (1, (fTakeNumber 1 (fMost c) t).2)
def fAct3 (c : Int32) (b : TB_) (t : TP_) : Int32 × TP_ := if (fTakeName (fDishNamed t.value b) t).1 = -1 then (0, (fTakeName (fDishNamed t.value b) t).2) else fAct4 c (fTakeName (fDishNamed t.value b) t).2
def fAct2 (b : TB_) (t : TP_) : Int32 × TP_ := if t.token = 10 then fAct3 t.token b (fAdvance t) else if t.token = 11 then fAct3 t.token b (fAdvance t) else fAct4 t.token (fAdvance t)
def fReadAct (b : TB_) (k : KP_) (t : TP_) : Int32 × TP_ :=
  if k.bw k.bl.toNatClampNeg = -1 then (if t.token = 16 then fAct2 b t else fFail 1 t)
  else if t.token < 10 then fFail 1 t else if 15 < t.token then fFail 1 t else fAct2 b t
def fFailK (i : Int32) (t : TP_) (k : KP_) : Int32 × TK_ := ((fFail i t).1, (fFail i t).2, k)
def fBk2 (b : TB_) (t : TP_) (k : KP_) : Int32 × TK_ := if (fReadAct b k t).1 = 0 then (0, (fReadAct b k t).2, k) else if (fTake 59 (fReadAct b k t).2).1 = 0 then (0, (fTake 59 (fReadAct b k t).2).2, k) else (1, (fTake 59 (fReadAct b k t).2).2, k)
def fBkLine (b : TB_) (t : TP_) (k : KP_) : Int32 × TK_ :=
  if t.token = 100 then
    (if fPersonNamed t.value b = -1 then fFailK 3 t k
    else if k.bl < 40 then fBk2 b (fAdvance t) (KP_.w_bw k (up1 k.bw k.bl.toNatClampNeg (fPersonNamed t.value b))) else fFailK 4 t k)
  else if t.token = 16 then (if k.bl < 40 then fBk2 b t (KP_.w_bw k (up1 k.bw k.bl.toNatClampNeg (-1))) else fFailK 4 t k)
  else fFailK 1 t k
def fBkg (b : TB_) : Nat → TP_ → KP_ → TK_
  | 0, t, k => (t, k)
  | f + 1, t, k => if 40 < k.bl then (t, k) else if t.token = 102 then (t, k) else if (fBkLine b t k).1 = 0 then (fBkLine b t k).2
    else fBkg b f (fBkLine b t k).2.1 (KP_.w_bl (fBkLine b t k).2.2 ((fBkLine b t k).2.2.bl + 1))
theorem bkl_bl {b : TB_} {t : TP_} {k : KP_} : (fBkLine b t k).2.2.bl = k.bl := by
  have h2 : ∀ (t : TP_) (k : KP_), (fBk2 b t k).2.2 = k := fun t k => by
    unfold fBk2
    split
    · rfl
    · split
      · rfl
      · rfl
  unfold fBkLine
  split
  · split
    · rfl
    · split
      · rw [h2]; rfl
      · rfl
  · split
    · split
      · rw [h2]; rfl
      · rfl
    · rfl
def fBkl (b : TB_) (t : TP_) (k : KP_) : TK_ := fBkg b (42 - k.bl.toNatClampNeg) t k
theorem fBkl_eq {b : TB_} {t : TP_} {k : KP_} (r : Rg 0 41 k.bl) : fBkl b t k = if 40 < k.bl then (t, k) else if t.token = 102 then (t, k) else if (fBkLine b t k).1 = 0 then (fBkLine b t k).2
    else fBkl b (fBkLine b t k).2.1 (KP_.w_bl (fBkLine b t k).2.2 ((fBkLine b t k).2.2.bl + 1)) := by
  have h1 := nn_1 r (by decide)
  have h2 := nn_le (h := 41) r
  have e : (KP_.w_bl (fBkLine b t k).2.2 ((fBkLine b t k).2.2.bl + 1)).bl.toNatClampNeg = k.bl.toNatClampNeg + 1 := by
    show ((fBkLine b t k).2.2.bl + 1).toNatClampNeg = _
    rw [bkl_bl, h1]
  unfold fBkl
  rw [e, show 42 - k.bl.toNatClampNeg = (42 - (k.bl.toNatClampNeg + 1)) + 1 by omega]
  rfl
def fBook (b : TB_) (t : TP_) (k : KP_) : TK_ := fBkl b (fBegin 400 t) (KP_.w_bl k (0))
def fBookF (a : Int32) (b : TB_) (t : TP_) (k : KP_) : Int32 := if a = 0 then (fBook b t k).1.fault else if a = 1 then (fBook b t k).1.fault else t.fault
def fTableF (t : TP_) (b : TB_) (c : CP_) (x : XP_) : Int32 := (fReadFrom t b c x).2.1.fault
def fSentF (b : TB_) (t : TP_) (s : SP_) : Int32 := (fSenRead b t s).2.1.fault
