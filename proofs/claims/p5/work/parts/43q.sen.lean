/-! a SENTENCE: what the class's code says -/
abbrev TS_ : Type := TP_ × SP_
def fBegOne (k : Int32) : Int32 := if k = 40 then 1 else if k = 5 then 1 else if k < 19 then 0 else if 27 < k then 0 else 1
def fForgetS (s : SP_) : SP_ := SP_.w_so (SP_.w_sl s (0)) (0)
def fAddStep (s : SP_) : Int32 × SP_ := if s.sl < 40 then (1, SP_.w_sl s (s.sl + 1)) else (0, s)
def fAnd2 (t : TP_) (s : SP_) : Int32 × TS_ := if (fAddStep s).1 = 0 then (0, t, (fAddStep s).2) else (1, t, (fAddStep s).2)
def fFailS (k : Int32) (t : TP_) (s : SP_) : Int32 × TS_ := ((fFail k t).1, (fFail k t).2, s)
def fCmp (t : TP_) (s : SP_) : Int32 × TS_ := if (fTakeNumber 0 999 (fAdvance t)).1 = -1 then (0, (fTakeNumber 0 999 (fAdvance t)).2, s) else fAnd2 (fTakeNumber 0 999 (fAdvance t)).2 s
def fPlain (f : Int32) (b : TB_) (t : TP_) (s : SP_) : Int32 × TS_ :=
  if f = 5 then (if (fTakeName (fPersonNamed t.value b) t).1 = -1 then (0, (fTakeName (fPersonNamed t.value b) t).2, s) else fAnd2 (fTakeName (fPersonNamed t.value b) t).2 s)
  else if f = 23 then (if (fTakeName (fDishNamed t.value b) t).1 = -1 then (0, (fTakeName (fDishNamed t.value b) t).2, s) else fAnd2 (fTakeName (fDishNamed t.value b) t).2 s)
  else if 23 ≤ f then (if t.token = 60 then fCmp t s else if t.token = 61 then fCmp t s else if t.token = 62 then fCmp t s else fFailS 1 t s)
  else ((fAddStep s).1, t, (fAddStep s).2)
/-- ONES that are joined by the word k: i of them so far -/
def fLpg (rd : TP_ → SP_ → Int32 × TS_) (k : Int32) : Nat → Int32 → Int32 → TP_ → SP_ → Int32 × TS_
  | 0, _, r, t, s => (r, t, s)
  | g + 1, i, r, t, s => if 20 ≤ i then (r, t, s) else if r = 0 then (r, t, s) else if t.token = k then
      (if (rd (fAdvance t) s).1 = 0 then fLpg rd k g (i + 1) 0 (rd (fAdvance t) s).2.1 (rd (fAdvance t) s).2.2
      else if (fAddStep (rd (fAdvance t) s).2.2).1 = 0 then fLpg rd k g (i + 1) 0 (rd (fAdvance t) s).2.1 (fAddStep (rd (fAdvance t) s).2.2).2
      else fLpg rd k g (i + 1) 1 (rd (fAdvance t) s).2.1 (fAddStep (rd (fAdvance t) s).2.2).2)
    else (r, t, s)
def fLp (rd : TP_ → SP_ → Int32 × TS_) (k i r : Int32) (t : TP_) (s : SP_) : Int32 × TS_ := fLpg rd k (21 - i.toNatClampNeg) i r t s
theorem fLp_eq {rd : TP_ → SP_ → Int32 × TS_} {k i r : Int32} {t : TP_} {s : SP_} (h : Rg 0 20 i) : fLp rd k i r t s = if 20 ≤ i then (r, t, s) else if r = 0 then (r, t, s) else if t.token = k then
      (if (rd (fAdvance t) s).1 = 0 then fLp rd k (i + 1) 0 (rd (fAdvance t) s).2.1 (rd (fAdvance t) s).2.2
      else if (fAddStep (rd (fAdvance t) s).2.2).1 = 0 then fLp rd k (i + 1) 0 (rd (fAdvance t) s).2.1 (fAddStep (rd (fAdvance t) s).2.2).2
      else fLp rd k (i + 1) 1 (rd (fAdvance t) s).2.1 (fAddStep (rd (fAdvance t) s).2.2).2)
    else (r, t, s) := by
  have h1 := nn_1 h (by decide)
  have h2 := nn_le (h := 20) h
  unfold fLp
  rw [h1, show 21 - i.toNatClampNeg = (21 - (i.toNatClampNeg + 1)) + 1 by omega]
  rfl
def fAllW (rd : TP_ → SP_ → Int32 × TS_) (t : TP_) (s : SP_) : Int32 × TS_ := fLp rd 18 0 (rd t s).1 (rd t s).2.1 (rd t s).2.2
def fCondW (rd : TP_ → SP_ → Int32 × TS_) (t : TP_) (s : SP_) : Int32 × TS_ := fLp (fAllW rd) 17 0 (fAllW rd t s).1 (fAllW rd t s).2.1 (fAllW rd t s).2.2
/-- a ONE; n more may lie within -/
def fOne : Nat → TB_ → TP_ → SP_ → Int32 × TS_
  | 0, _, t, s => if fBegOne t.token = 0 then fFailS 1 t s else fFailS 4 t s
  | n + 1, b, t, s => if fBegOne t.token = 0 then fFailS 1 t s else if 20 ≤ s.so then fFailS 4 t s
    else if t.token = 40 then
      (if (fCondW (fOne n b) (fAdvance t) (SP_.w_so s (s.so + 1))).1 = 0 then (0, (fCondW (fOne n b) (fAdvance t) (SP_.w_so s (s.so + 1))).2)
      else if (fTake 41 (fCondW (fOne n b) (fAdvance t) (SP_.w_so s (s.so + 1))).2.1).1 = 0 then (0, (fTake 41 (fCondW (fOne n b) (fAdvance t) (SP_.w_so s (s.so + 1))).2.1).2, (fCondW (fOne n b) (fAdvance t) (SP_.w_so s (s.so + 1))).2.2)
      else (1, (fTake 41 (fCondW (fOne n b) (fAdvance t) (SP_.w_so s (s.so + 1))).2.1).2, (fCondW (fOne n b) (fAdvance t) (SP_.w_so s (s.so + 1))).2.2))
    else if t.token = 19 then
      (if (fOne n b (fAdvance t) (SP_.w_so s (s.so + 1))).1 = 0 then (0, (fOne n b (fAdvance t) (SP_.w_so s (s.so + 1))).2) else fAnd2 (fOne n b (fAdvance t) (SP_.w_so s (s.so + 1))).2.1 (fOne n b (fAdvance t) (SP_.w_so s (s.so + 1))).2.2)
    else fPlain t.token b (fAdvance t) (SP_.w_so s (s.so + 1))
def fAll (n : Nat) (b : TB_) (t : TP_) (s : SP_) : Int32 × TS_ := fLp (fOne n b) 18 0 (fOne n b t s).1 (fOne n b t s).2.1 (fOne n b t s).2.2
def fCond (n : Nat) (b : TB_) (t : TP_) (s : SP_) : Int32 × TS_ := fLp (fAll n b) 17 0 (fAll n b t s).1 (fAll n b t s).2.1 (fAll n b t s).2.2
theorem fOne_z {b : TB_} {t : TP_} {s : SP_} : fOne 0 b t s = if fBegOne t.token = 0 then fFailS 1 t s else fFailS 4 t s := rfl
theorem fOne_s (n : Nat) {b : TB_} {t : TP_} {s : SP_} : fOne (n + 1) b t s = if fBegOne t.token = 0 then fFailS 1 t s else if 20 ≤ s.so then fFailS 4 t s
    else if t.token = 40 then
      (if (fCond n b (fAdvance t) (SP_.w_so s (s.so + 1))).1 = 0 then (0, (fCond n b (fAdvance t) (SP_.w_so s (s.so + 1))).2)
      else if (fTake 41 (fCond n b (fAdvance t) (SP_.w_so s (s.so + 1))).2.1).1 = 0 then (0, (fTake 41 (fCond n b (fAdvance t) (SP_.w_so s (s.so + 1))).2.1).2, (fCond n b (fAdvance t) (SP_.w_so s (s.so + 1))).2.2)
      else (1, (fTake 41 (fCond n b (fAdvance t) (SP_.w_so s (s.so + 1))).2.1).2, (fCond n b (fAdvance t) (SP_.w_so s (s.so + 1))).2.2))
    else if t.token = 19 then
      (if (fOne n b (fAdvance t) (SP_.w_so s (s.so + 1))).1 = 0 then (0, (fOne n b (fAdvance t) (SP_.w_so s (s.so + 1))).2) else fAnd2 (fOne n b (fAdvance t) (SP_.w_so s (s.so + 1))).2.1 (fOne n b (fAdvance t) (SP_.w_so s (s.so + 1))).2.2)
    else fPlain t.token b (fAdvance t) (SP_.w_so s (s.so + 1)) := rfl
theorem fOne_k1 {b : TB_} {t : TP_} {s : SP_} : fOne 1 b t s = if fBegOne t.token = 0 then fFailS 1 t s else if 20 ≤ s.so then fFailS 4 t s
    else if t.token = 40 then
      (if (fCond 0 b (fAdvance t) (SP_.w_so s (s.so + 1))).1 = 0 then (0, (fCond 0 b (fAdvance t) (SP_.w_so s (s.so + 1))).2)
      else if (fTake 41 (fCond 0 b (fAdvance t) (SP_.w_so s (s.so + 1))).2.1).1 = 0 then (0, (fTake 41 (fCond 0 b (fAdvance t) (SP_.w_so s (s.so + 1))).2.1).2, (fCond 0 b (fAdvance t) (SP_.w_so s (s.so + 1))).2.2)
      else (1, (fTake 41 (fCond 0 b (fAdvance t) (SP_.w_so s (s.so + 1))).2.1).2, (fCond 0 b (fAdvance t) (SP_.w_so s (s.so + 1))).2.2))
    else if t.token = 19 then
      (if (fOne 0 b (fAdvance t) (SP_.w_so s (s.so + 1))).1 = 0 then (0, (fOne 0 b (fAdvance t) (SP_.w_so s (s.so + 1))).2) else fAnd2 (fOne 0 b (fAdvance t) (SP_.w_so s (s.so + 1))).2.1 (fOne 0 b (fAdvance t) (SP_.w_so s (s.so + 1))).2.2)
    else fPlain t.token b (fAdvance t) (SP_.w_so s (s.so + 1)) := fOne_s 0
theorem fOne_k2 {b : TB_} {t : TP_} {s : SP_} : fOne 2 b t s = if fBegOne t.token = 0 then fFailS 1 t s else if 20 ≤ s.so then fFailS 4 t s
    else if t.token = 40 then
      (if (fCond 1 b (fAdvance t) (SP_.w_so s (s.so + 1))).1 = 0 then (0, (fCond 1 b (fAdvance t) (SP_.w_so s (s.so + 1))).2)
      else if (fTake 41 (fCond 1 b (fAdvance t) (SP_.w_so s (s.so + 1))).2.1).1 = 0 then (0, (fTake 41 (fCond 1 b (fAdvance t) (SP_.w_so s (s.so + 1))).2.1).2, (fCond 1 b (fAdvance t) (SP_.w_so s (s.so + 1))).2.2)
      else (1, (fTake 41 (fCond 1 b (fAdvance t) (SP_.w_so s (s.so + 1))).2.1).2, (fCond 1 b (fAdvance t) (SP_.w_so s (s.so + 1))).2.2))
    else if t.token = 19 then
      (if (fOne 1 b (fAdvance t) (SP_.w_so s (s.so + 1))).1 = 0 then (0, (fOne 1 b (fAdvance t) (SP_.w_so s (s.so + 1))).2) else fAnd2 (fOne 1 b (fAdvance t) (SP_.w_so s (s.so + 1))).2.1 (fOne 1 b (fAdvance t) (SP_.w_so s (s.so + 1))).2.2)
    else fPlain t.token b (fAdvance t) (SP_.w_so s (s.so + 1)) := fOne_s 1
theorem fOne_k3 {b : TB_} {t : TP_} {s : SP_} : fOne 3 b t s = if fBegOne t.token = 0 then fFailS 1 t s else if 20 ≤ s.so then fFailS 4 t s
    else if t.token = 40 then
      (if (fCond 2 b (fAdvance t) (SP_.w_so s (s.so + 1))).1 = 0 then (0, (fCond 2 b (fAdvance t) (SP_.w_so s (s.so + 1))).2)
      else if (fTake 41 (fCond 2 b (fAdvance t) (SP_.w_so s (s.so + 1))).2.1).1 = 0 then (0, (fTake 41 (fCond 2 b (fAdvance t) (SP_.w_so s (s.so + 1))).2.1).2, (fCond 2 b (fAdvance t) (SP_.w_so s (s.so + 1))).2.2)
      else (1, (fTake 41 (fCond 2 b (fAdvance t) (SP_.w_so s (s.so + 1))).2.1).2, (fCond 2 b (fAdvance t) (SP_.w_so s (s.so + 1))).2.2))
    else if t.token = 19 then
      (if (fOne 2 b (fAdvance t) (SP_.w_so s (s.so + 1))).1 = 0 then (0, (fOne 2 b (fAdvance t) (SP_.w_so s (s.so + 1))).2) else fAnd2 (fOne 2 b (fAdvance t) (SP_.w_so s (s.so + 1))).2.1 (fOne 2 b (fAdvance t) (SP_.w_so s (s.so + 1))).2.2)
    else fPlain t.token b (fAdvance t) (SP_.w_so s (s.so + 1)) := fOne_s 2
theorem fOne_k4 {b : TB_} {t : TP_} {s : SP_} : fOne 4 b t s = if fBegOne t.token = 0 then fFailS 1 t s else if 20 ≤ s.so then fFailS 4 t s
    else if t.token = 40 then
      (if (fCond 3 b (fAdvance t) (SP_.w_so s (s.so + 1))).1 = 0 then (0, (fCond 3 b (fAdvance t) (SP_.w_so s (s.so + 1))).2)
      else if (fTake 41 (fCond 3 b (fAdvance t) (SP_.w_so s (s.so + 1))).2.1).1 = 0 then (0, (fTake 41 (fCond 3 b (fAdvance t) (SP_.w_so s (s.so + 1))).2.1).2, (fCond 3 b (fAdvance t) (SP_.w_so s (s.so + 1))).2.2)
      else (1, (fTake 41 (fCond 3 b (fAdvance t) (SP_.w_so s (s.so + 1))).2.1).2, (fCond 3 b (fAdvance t) (SP_.w_so s (s.so + 1))).2.2))
    else if t.token = 19 then
      (if (fOne 3 b (fAdvance t) (SP_.w_so s (s.so + 1))).1 = 0 then (0, (fOne 3 b (fAdvance t) (SP_.w_so s (s.so + 1))).2) else fAnd2 (fOne 3 b (fAdvance t) (SP_.w_so s (s.so + 1))).2.1 (fOne 3 b (fAdvance t) (SP_.w_so s (s.so + 1))).2.2)
    else fPlain t.token b (fAdvance t) (SP_.w_so s (s.so + 1)) := fOne_s 3
theorem fOne_k5 {b : TB_} {t : TP_} {s : SP_} : fOne 5 b t s = if fBegOne t.token = 0 then fFailS 1 t s else if 20 ≤ s.so then fFailS 4 t s
    else if t.token = 40 then
      (if (fCond 4 b (fAdvance t) (SP_.w_so s (s.so + 1))).1 = 0 then (0, (fCond 4 b (fAdvance t) (SP_.w_so s (s.so + 1))).2)
      else if (fTake 41 (fCond 4 b (fAdvance t) (SP_.w_so s (s.so + 1))).2.1).1 = 0 then (0, (fTake 41 (fCond 4 b (fAdvance t) (SP_.w_so s (s.so + 1))).2.1).2, (fCond 4 b (fAdvance t) (SP_.w_so s (s.so + 1))).2.2)
      else (1, (fTake 41 (fCond 4 b (fAdvance t) (SP_.w_so s (s.so + 1))).2.1).2, (fCond 4 b (fAdvance t) (SP_.w_so s (s.so + 1))).2.2))
    else if t.token = 19 then
      (if (fOne 4 b (fAdvance t) (SP_.w_so s (s.so + 1))).1 = 0 then (0, (fOne 4 b (fAdvance t) (SP_.w_so s (s.so + 1))).2) else fAnd2 (fOne 4 b (fAdvance t) (SP_.w_so s (s.so + 1))).2.1 (fOne 4 b (fAdvance t) (SP_.w_so s (s.so + 1))).2.2)
    else fPlain t.token b (fAdvance t) (SP_.w_so s (s.so + 1)) := fOne_s 4
theorem fOne_k6 {b : TB_} {t : TP_} {s : SP_} : fOne 6 b t s = if fBegOne t.token = 0 then fFailS 1 t s else if 20 ≤ s.so then fFailS 4 t s
    else if t.token = 40 then
      (if (fCond 5 b (fAdvance t) (SP_.w_so s (s.so + 1))).1 = 0 then (0, (fCond 5 b (fAdvance t) (SP_.w_so s (s.so + 1))).2)
      else if (fTake 41 (fCond 5 b (fAdvance t) (SP_.w_so s (s.so + 1))).2.1).1 = 0 then (0, (fTake 41 (fCond 5 b (fAdvance t) (SP_.w_so s (s.so + 1))).2.1).2, (fCond 5 b (fAdvance t) (SP_.w_so s (s.so + 1))).2.2)
      else (1, (fTake 41 (fCond 5 b (fAdvance t) (SP_.w_so s (s.so + 1))).2.1).2, (fCond 5 b (fAdvance t) (SP_.w_so s (s.so + 1))).2.2))
    else if t.token = 19 then
      (if (fOne 5 b (fAdvance t) (SP_.w_so s (s.so + 1))).1 = 0 then (0, (fOne 5 b (fAdvance t) (SP_.w_so s (s.so + 1))).2) else fAnd2 (fOne 5 b (fAdvance t) (SP_.w_so s (s.so + 1))).2.1 (fOne 5 b (fAdvance t) (SP_.w_so s (s.so + 1))).2.2)
    else fPlain t.token b (fAdvance t) (SP_.w_so s (s.so + 1)) := fOne_s 5
theorem fOne_k7 {b : TB_} {t : TP_} {s : SP_} : fOne 7 b t s = if fBegOne t.token = 0 then fFailS 1 t s else if 20 ≤ s.so then fFailS 4 t s
    else if t.token = 40 then
      (if (fCond 6 b (fAdvance t) (SP_.w_so s (s.so + 1))).1 = 0 then (0, (fCond 6 b (fAdvance t) (SP_.w_so s (s.so + 1))).2)
      else if (fTake 41 (fCond 6 b (fAdvance t) (SP_.w_so s (s.so + 1))).2.1).1 = 0 then (0, (fTake 41 (fCond 6 b (fAdvance t) (SP_.w_so s (s.so + 1))).2.1).2, (fCond 6 b (fAdvance t) (SP_.w_so s (s.so + 1))).2.2)
      else (1, (fTake 41 (fCond 6 b (fAdvance t) (SP_.w_so s (s.so + 1))).2.1).2, (fCond 6 b (fAdvance t) (SP_.w_so s (s.so + 1))).2.2))
    else if t.token = 19 then
      (if (fOne 6 b (fAdvance t) (SP_.w_so s (s.so + 1))).1 = 0 then (0, (fOne 6 b (fAdvance t) (SP_.w_so s (s.so + 1))).2) else fAnd2 (fOne 6 b (fAdvance t) (SP_.w_so s (s.so + 1))).2.1 (fOne 6 b (fAdvance t) (SP_.w_so s (s.so + 1))).2.2)
    else fPlain t.token b (fAdvance t) (SP_.w_so s (s.so + 1)) := fOne_s 6
theorem fOne_k8 {b : TB_} {t : TP_} {s : SP_} : fOne 8 b t s = if fBegOne t.token = 0 then fFailS 1 t s else if 20 ≤ s.so then fFailS 4 t s
    else if t.token = 40 then
      (if (fCond 7 b (fAdvance t) (SP_.w_so s (s.so + 1))).1 = 0 then (0, (fCond 7 b (fAdvance t) (SP_.w_so s (s.so + 1))).2)
      else if (fTake 41 (fCond 7 b (fAdvance t) (SP_.w_so s (s.so + 1))).2.1).1 = 0 then (0, (fTake 41 (fCond 7 b (fAdvance t) (SP_.w_so s (s.so + 1))).2.1).2, (fCond 7 b (fAdvance t) (SP_.w_so s (s.so + 1))).2.2)
      else (1, (fTake 41 (fCond 7 b (fAdvance t) (SP_.w_so s (s.so + 1))).2.1).2, (fCond 7 b (fAdvance t) (SP_.w_so s (s.so + 1))).2.2))
    else if t.token = 19 then
      (if (fOne 7 b (fAdvance t) (SP_.w_so s (s.so + 1))).1 = 0 then (0, (fOne 7 b (fAdvance t) (SP_.w_so s (s.so + 1))).2) else fAnd2 (fOne 7 b (fAdvance t) (SP_.w_so s (s.so + 1))).2.1 (fOne 7 b (fAdvance t) (SP_.w_so s (s.so + 1))).2.2)
    else fPlain t.token b (fAdvance t) (SP_.w_so s (s.so + 1)) := fOne_s 7
def fSenRead (b : TB_) (t : TP_) (s : SP_) : Int32 × TS_ :=
  if (fCond 8 b (fBegin 200 t) (fForgetS s)).1 = 0 then (0, (fCond 8 b (fBegin 200 t) (fForgetS s)).2)
  else if (fTake 102 (fCond 8 b (fBegin 200 t) (fForgetS s)).2.1).1 = 0 then (0, (fTake 102 (fCond 8 b (fBegin 200 t) (fForgetS s)).2.1).2, (fCond 8 b (fBegin 200 t) (fForgetS s)).2.2)
  else (1, (fTake 102 (fCond 8 b (fBegin 200 t) (fForgetS s)).2.1).2, (fCond 8 b (fBegin 200 t) (fForgetS s)).2.2)
def fSent (b : TB_) (t : TP_) (s : SP_) : Int32 := if (fSenRead b t s).2.1.fault = 0 then (fSenRead b t s).2.2.so else -1 - (fSenRead b t s).2.1.fat
