/-! a SENTENCE, read by both -/
/-- the first word from 18 on that stands there -/
theorem mww_st {c p : Int32} {v : Int64} {m : MT_} (h : Tok c p v m) (w : Int32) (k : Nat) (hw : w = Int32.ofNat k) (hk : k < 28) (c1 w1 : Int32) (hc : Int32.ofNat (mc_ k) = c1) (hw1 : w + 1 = w1) (hl : ¬ 27 < w) (hr : Rg 0 28 w) : mww w m = if c = c1 then w else mww w1 m := by
  have t := tok_word h hk
  rw [hc, ← hw] at t
  rw [mww_eq hr, if_neg hl, hw1]
  by_cases q : c = c1
  · rw [if_pos q, if_neg (fun z => t.mp z q)]
  · rw [if_neg q, if_pos (t.mpr q)]
theorem mww_28 {m : MT_} : mww 28 m = 28 := by rw [mww_eq ⟨by decide, by decide⟩, if_pos (by decide)]
theorem mww_v {c p : Int32} {v : Int64} {m : MT_} (h : Tok c p v m) : mww 18 m = if c = 19 then 18 else if c = 20 then 19 else if c = 21 then 20 else if c = 22 then 21 else if c = 5 then 22 else if c = 23 then 23 else if c = 24 then 24 else if c = 25 then 25 else if c = 26 then 26 else if c = 27 then 27 else 28 := by
  rw [mww_st h 18 18 rfl (by decide) 19 19 (by decide) (by decide) (by decide) ⟨by decide, by decide⟩, mww_st h 19 19 rfl (by decide) 20 20 (by decide) (by decide) (by decide) ⟨by decide, by decide⟩,
    mww_st h 20 20 rfl (by decide) 21 21 (by decide) (by decide) (by decide) ⟨by decide, by decide⟩, mww_st h 21 21 rfl (by decide) 22 22 (by decide) (by decide) (by decide) ⟨by decide, by decide⟩,
    mww_st h 22 22 rfl (by decide) 5 23 (by decide) (by decide) (by decide) ⟨by decide, by decide⟩, mww_st h 23 23 rfl (by decide) 23 24 (by decide) (by decide) (by decide) ⟨by decide, by decide⟩,
    mww_st h 24 24 rfl (by decide) 24 25 (by decide) (by decide) (by decide) ⟨by decide, by decide⟩, mww_st h 25 25 rfl (by decide) 25 26 (by decide) (by decide) (by decide) ⟨by decide, by decide⟩,
    mww_st h 26 26 rfl (by decide) 26 27 (by decide) (by decide) (by decide) ⟨by decide, by decide⟩, mww_st h 27 27 rfl (by decide) 27 28 (by decide) (by decide) (by decide) ⟨by decide, by decide⟩, mww_28]
theorem ok_le {A B : Int} {t : TP_} {m : MT_} (h : Ok2 A t m) (hB : B ≤ A) : Ok2 B t m := ⟨h.1, h.2.1, by have := h.2.2; omega⟩
/-- the outcome of a piece of a SENTENCE -/
def SOut (s : SP_) (n : NR_) (R : Int32 × TS_) (Z : Int32 × M3_) : Prop :=
  (R.1 = 0 ∧ Z.1 = 0 ∧ Bad R.2.1 Z.2.2.1) ∨
  (R.1 = 1 ∧ ¬ Z.1 = 0 ∧ Ok2 0 R.2.1 Z.2.1 ∧ R.2.2.so = Z.2.2.2.om ∧ s.so.toInt < R.2.2.so.toInt ∧ R.2.2.so.toInt ≤ 20 ∧ 0 ≤ R.2.2.sl.toInt ∧ R.2.2.sl.toInt + 1 ≤ s.sl.toInt + 2 * (R.2.2.so.toInt - s.so.toInt) ∧ Z.2.2.1.mfault = n.mfault)
def SPre (t : TP_) (m : MT_) (s : SP_) (q : QT_) : Prop := Ok2 0 t m ∧ s.so = q.om ∧ 0 ≤ s.so.toInt ∧ s.so.toInt ≤ 20 ∧ 0 ≤ s.sl.toInt ∧ s.sl.toInt ≤ 2 * s.so.toInt
def SP2 (rd : TP_ → SP_ → Int32 × TS_) (rm : MT_ → NR_ → QT_ → Int32 × M3_) : Prop := ∀ (t : TP_) (m : MT_) (n : NR_) (s : SP_) (q : QT_), SPre t m s q → SOut s n (rd t s) (rm m n q)
theorem s_fail {A : Int} {t : TP_} {m : MT_} {n n2 : NR_} {s s2 : SP_} {q : QT_} {k : Int32} (h : Ok2 A t m) (hk : ¬ k = 0) (h1 : t.token = 103 → k = 1) : SOut s n2 (fFailS k t s2) (mBadQ k m n q) := by
  have fk := fail_ok (n := n) h hk h1
  exact Or.inl ⟨fk.1, fk.2.1, fk.2.2⟩
theorem add_s {s : SP_} (h0 : 0 ≤ s.sl.toInt) (h : s.sl.toInt < 40) : fAddStep s = (1, SP_.w_sl s (s.sl + 1)) ∧ (s.sl + 1).toInt = s.sl.toInt + 1 := by
  refine ⟨?_, add1 (by omega)⟩
  unfold fAddStep
  rw [if_pos (ltI.mpr (by rw [show (40 : Int32).toInt = 40 from by decide]; exact h))]
theorem fLp_0 {rd : TP_ → SP_ → Int32 × TS_} {k i : Int32} {t : TP_} {s : SP_} (h : Rg 0 20 i) : fLp rd k i 0 t s = (0, t, s) := by
  rw [fLp_eq h]
  by_cases q : 20 ≤ i
  · rw [if_pos q]
  · rw [if_neg q, if_pos rfl]
/-- joined ONES: at least i + 1 of them are read -/
theorem lp_sen {rd : TP_ → SP_ → Int32 × TS_} {rm : MT_ → NR_ → QT_ → Int32 × M3_} {k kw : Int32} {kn : Nat} (hP : SP2 rd rm) (hkn : kn < 28) (hw : kw = Int32.ofNat kn) (hk : Int32.ofNat (mc_ kn) = k) (h102 : k.toInt < 102) :
    ∀ (F : Nat) (i : Int32) (t : TP_) (m : MT_) (n : NR_) (s : SP_) (q : QT_), Ok2 0 t m → s.so = q.om → s.so.toInt ≤ 20 → 0 ≤ s.sl.toInt → s.sl.toInt + 1 ≤ 2 * s.so.toInt → 0 ≤ i.toInt → i.toInt + 1 ≤ s.so.toInt → 21 ≤ s.so.toInt + F →
    ((fLp rd k i 1 t s).1 = 0 ∧ (mLp rm kw F m n q).1 = 0 ∧ Bad (fLp rd k i 1 t s).2.1 (mLp rm kw F m n q).2.2.1) ∨
    ((fLp rd k i 1 t s).1 = 1 ∧ ¬ (mLp rm kw F m n q).1 = 0 ∧ Ok2 0 (fLp rd k i 1 t s).2.1 (mLp rm kw F m n q).2.1 ∧ (fLp rd k i 1 t s).2.2.so = (mLp rm kw F m n q).2.2.2.om ∧ s.so.toInt ≤ (fLp rd k i 1 t s).2.2.so.toInt ∧ (fLp rd k i 1 t s).2.2.so.toInt ≤ 20 ∧ 0 ≤ (fLp rd k i 1 t s).2.2.sl.toInt ∧
      (fLp rd k i 1 t s).2.2.sl.toInt ≤ s.sl.toInt + 2 * ((fLp rd k i 1 t s).2.2.so.toInt - s.so.toInt) ∧ (mLp rm kw F m n q).2.2.1.mfault = n.mfault)
  | 0, i, t, m, n, s, q, hO, he, h20, hl0, hl, hi, his, hF => by omega
  | F + 1, i, t, m, n, s, q, hO, he, h20, hl0, hl, hi, his, hF => by
    have rg : Rg 0 20 i := ⟨hi, by omega⟩
    have tk := tok_word (ok_tok hO) hkn
    rw [hk, ← hw] at tk
    have e1 := add1 (x := i) (by omega)
    rw [fLp_eq rg, mLp_eq, if_neg (fun w => by have := leI.mp w; rw [show (20 : Int32).toInt = 20 from by decide] at this; omega), if_neg (by decide : ¬ (1 : Int32) = 0)]
    by_cases y : t.token = k
    · have no := tok_no (p := t.place) (v := t.value) (m := m) y h102
      rw [if_pos y, if_neg (fun z => tk.mp z y)]
      have ih := hP (fAdvance t) (mGo m) n s q ⟨ok_le (ok_adv hO no.1 no.2) (by decide), he, by omega, h20, hl0, by omega⟩
      obtain ⟨A, hA⟩ : ∃ A, rd (fAdvance t) s = A := ⟨_, rfl⟩
      obtain ⟨Z, hZ⟩ : ∃ Z, rm (mGo m) n q = Z := ⟨_, rfl⟩
      rw [hA, hZ] at ih ⊢
      rcases ih with ⟨a1, a2, a3⟩ | ⟨a1, a2, a3, a4, a5, a6, a7, a8, a9⟩
      · rw [if_pos a1, if_pos a2, fLp_0 ⟨by omega, by omega⟩]
        exact Or.inl ⟨rfl, rfl, a3⟩
      · obtain ⟨s1, s2⟩ := add_s (s := A.2.2) a7 (by omega)
        rw [if_neg (by rw [a1]; decide), if_neg a2, s1, if_neg (by decide : ¬ (1 : Int32) = 0)]
        have r := lp_sen hP hkn hw hk h102 F (i + 1) A.2.1 Z.2.1 Z.2.2.1 (SP_.w_sl A.2.2 (A.2.2.sl + 1)) Z.2.2.2 a3 a4 a6 (show 0 ≤ (A.2.2.sl + 1).toInt by omega) (show (A.2.2.sl + 1).toInt + 1 ≤ 2 * A.2.2.so.toInt by omega) (by omega) (show (i + 1).toInt + 1 ≤ A.2.2.so.toInt by omega) (show 21 ≤ A.2.2.so.toInt + F by omega)
        obtain ⟨B, hB⟩ : ∃ B, fLp rd k (i + 1) 1 A.2.1 (SP_.w_sl A.2.2 (A.2.2.sl + 1)) = B := ⟨_, rfl⟩
        obtain ⟨Y, hY⟩ : ∃ Y, mLp rm kw F Z.2.1 Z.2.2.1 Z.2.2.2 = Y := ⟨_, rfl⟩
        rw [hB, hY] at r ⊢
        rcases r with r | ⟨b1, b2, b3, b4, b5, b6, b7, b8, b9⟩
        · exact Or.inl r
        · have b5' : A.2.2.so.toInt ≤ B.2.2.so.toInt := b5
          have b8' : B.2.2.sl.toInt ≤ (A.2.2.sl + 1).toInt + 2 * (B.2.2.so.toInt - A.2.2.so.toInt) := b8
          exact Or.inr ⟨b1, b2, b3, b4, by omega, b6, b7, by omega, b9.trans a9⟩
    · rw [if_neg y, if_pos (tk.mpr y)]
      exact Or.inr ⟨rfl, (by decide : ¬ (1 : Int32) = 0), hO, he, by show s.so.toInt ≤ s.so.toInt; omega, h20, hl0, by show s.sl.toInt ≤ s.sl.toInt + 2 * (s.so.toInt - s.so.toInt); omega, rfl⟩
/-- a piece, and those joined to it -/
theorem jn_sen {rd rf : TP_ → SP_ → Int32 × TS_} {rm rn : MT_ → NR_ → QT_ → Int32 × M3_} {k kw : Int32} {kn : Nat} (hP : SP2 rd rm) (hkn : kn < 28) (hw : kw = Int32.ofNat kn) (hk : Int32.ofNat (mc_ kn) = k) (h102 : k.toInt < 102)
    (hf : ∀ t s, rf t s = fLp rd k 0 (rd t s).1 (rd t s).2.1 (rd t s).2.2) (hm : ∀ m n q, rn m n q = if (rm m n q).1 = 0 then (0, (rm m n q).2) else mLp rm kw 21 (rm m n q).2.1 (rm m n q).2.2.1 (rm m n q).2.2.2) : SP2 rf rn := fun t m n s q hp => by
  have ih := hP t m n s q hp
  rw [hf, hm]
  obtain ⟨hO, he, h0, h20, hl0, hl⟩ := hp
  obtain ⟨A, hA⟩ : ∃ A, rd t s = A := ⟨_, rfl⟩
  obtain ⟨Z, hZ⟩ : ∃ Z, rm m n q = Z := ⟨_, rfl⟩
  rw [hA, hZ] at ih ⊢
  rcases ih with ⟨a1, a2, a3⟩ | ⟨a1, a2, a3, a4, a5, a6, a7, a8, a9⟩
  · rw [a1, if_pos a2, fLp_0 ⟨by decide, by decide⟩]
    exact Or.inl ⟨rfl, rfl, a3⟩
  · rw [a1, if_neg a2]
    have r := lp_sen hP hkn hw hk h102 21 0 A.2.1 Z.2.1 Z.2.2.1 A.2.2 Z.2.2.2 a3 a4 a6 a7 (by omega) (by decide) (by rw [k0]; omega) (by omega)
    obtain ⟨B, hB⟩ : ∃ B, fLp rd k 0 1 A.2.1 A.2.2 = B := ⟨_, rfl⟩
    obtain ⟨Y, hY⟩ : ∃ Y, mLp rm kw 21 Z.2.1 Z.2.2.1 Z.2.2.2 = Y := ⟨_, rfl⟩
    rw [hB, hY] at r ⊢
    rcases r with r | ⟨b1, b2, b3, b4, b5, b6, b7, b8, b9⟩
    · exact Or.inl r
    · exact Or.inr ⟨b1, b2, b3, b4, by omega, b6, b7, by omega, b9.trans a9⟩
/-- names of a table, and those of the reference -/
def Nm2 (b : TB_) (v : NV_) (z : NW_) : Prop := b.persons.toInt ≤ 7 ∧ b.dishes.toInt ≤ 6 ∧ z.nw 0 = b.persons ∧ z.nw 1 = b.dishes ∧ (∀ j : Nat, (j : Int) < b.persons.toInt → Wd (b.pnm j) (v.nv j)) ∧ (∀ j : Nat, (j : Int) < b.dishes.toInt → Wd (b.dnm j) (v.nv (7 + j)))
theorem nm_p {b : TB_} {v : NV_} {z : NW_} {x y : Int64} (h : Nm2 b v z) (hv : Wd x y) : fPersonNamed x b = mfnd v.nv 0 (z.nw 0) y 0 := by
  obtain ⟨h1, h2, h3, h4, h5, h6⟩ := h
  rw [h3]
  exact (fm_n (nm := b.pnm) (rn := v.nv) (bb := 0) (cnt := b.persons) (by decide) (by decide) h1 hv (fun j hj => by rw [show (0 : Int32).toInt.toNat + j = j from by rw [k0]; omega]; exact h5 j hj) 8 0 (by decide) (by decide)).1
theorem nm_d {b : TB_} {v : NV_} {z : NW_} {x y : Int64} (h : Nm2 b v z) (hv : Wd x y) : fDishNamed x b = mfnd v.nv 7 (z.nw 1) y 0 := by
  obtain ⟨h1, h2, h3, h4, h5, h6⟩ := h
  rw [h4]
  exact (fm_n (nm := b.dnm) (rn := v.nv) (bb := 7) (cnt := b.dishes) (by decide) (by decide) (by omega) hv (fun j hj => by rw [show (7 : Int32).toInt.toNat + j = 7 + j from by rw [show (7 : Int32).toInt = 7 from by decide]; rfl]; exact h6 j hj) 8 0 (by decide) (by decide)).1
/-- one that is named -/
theorem nam_ok {A : Int} {t : TP_} {m : MT_} {n : NR_} {v : NV_} {k cnt f : Int32} (h : Ok2 A t m) (hf : t.token = 100 → f = mfnd v.nv k cnt m.word 0) :
    ((fTakeName f t).1 = -1 ∧ (mNamed k cnt v m n).1 = 0 ∧ Bad (fTakeName f t).2 (mNamed k cnt v m n).2.2) ∨
    (¬ (fTakeName f t).1 = -1 ∧ (fTakeName f t).2 = fAdvance t ∧ (fTakeName f t).1 = f ∧ ∃ d : Int32, mNamed k cnt v m n = (1, mGo m, NR_.w_told n d) ∧ d = f ∧ Ok2 (A + 1) (fAdvance t) (mGo m)) := by
  have tk := ok_tok h
  by_cases q : t.token = 100
  · have nn : ¬ mIsName m = 0 := fun z => (tok_name tk).mp z q
    have no := tok_no (p := t.place) (v := t.value) (m := m) q (by decide)
    have e := hf q
    by_cases z : f = -1
    · have fk := fail_ok (n := NR_.w_told n f) (k := 3) h (by decide) (fun y => absurd y no.2)
      have e1 : mNamed k cnt v m n = mBad 3 m (NR_.w_told n f) := by unfold mNamed; rw [if_neg nn, ← e, if_pos z]
      have e2 : fTakeName f t = (-1, (fFail 3 t).2) := by unfold fTakeName; rw [if_pos q, if_pos z]
      rw [e1, e2]
      exact Or.inl ⟨rfl, fk.2.1, fk.2.2⟩
    · have e1 : mNamed k cnt v m n = (1, mGo m, NR_.w_told n f) := by unfold mNamed; rw [if_neg nn, ← e, if_neg z]
      have e2 : fTakeName f t = (f, fAdvance t) := by unfold fTakeName; rw [if_pos q, if_neg z]
      rw [e1, e2]
      exact Or.inr ⟨z, rfl, rfl, f, rfl, rfl, ok_adv h no.1 no.2⟩
  · have nn : mIsName m = 0 := (tok_name tk).mpr q
    have fk := fail_ok (n := n) (k := 1) h (by decide) (fun _ => rfl)
    have e1 : mNamed k cnt v m n = mBad 1 m n := by unfold mNamed; rw [if_pos nn]
    have e2 : fTakeName f t = (-1, (fFail 1 t).2) := by unfold fTakeName; rw [if_neg q]
    rw [e1, e2]
    exact Or.inl ⟨rfl, fk.2.1, fk.2.2⟩
/-- a step more -/
theorem s_add {s s0 : SP_} {n n2 : NR_} {t : TP_} {m : MT_} {q : QT_} (hO : Ok2 0 t m) (he : s.so = q.om) (h1 : s0.so.toInt < s.so.toInt) (h20 : s.so.toInt ≤ 20) (hl0 : 0 ≤ s.sl.toInt) (hl : s.sl.toInt + 2 ≤ s0.sl.toInt + 2 * (s.so.toInt - s0.so.toInt)) (h40 : s.sl.toInt < 40) (hf : n.mfault = n2.mfault) :
    SOut s0 n2 (fAnd2 t s) (1, m, n, q) ∧ SOut s0 n2 ((fAddStep s).1, t, (fAddStep s).2) (1, m, n, q) := by
  obtain ⟨s1, s2⟩ := add_s hl0 h40
  unfold fAnd2
  rw [s1, if_neg (by decide : ¬ (1 : Int32) = 0)]
  have r : SOut s0 n2 (1, t, SP_.w_sl s (s.sl + 1)) (1, m, n, q) := Or.inr ⟨rfl, (by decide : ¬ (1 : Int32) = 0), hO, he, h1, h20, show 0 ≤ (s.sl + 1).toInt by omega, show (s.sl + 1).toInt + 1 ≤ s0.sl.toInt + 2 * (s.so.toInt - s0.so.toInt) by omega, hf⟩
  exact ⟨r, r⟩
