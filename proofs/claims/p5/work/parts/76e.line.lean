/-! LINES, read by both -/
def Bad (t : TP_) (n : NR_) : Prop := ¬ t.fault = 0 ∧ t.fault = n.mfault ∧ t.fat = n.mplace
/-- both stand at the same TOKEN, no FAULT yet, at least A TOKENS read -/
def Ok2 (A : Int) (t : TP_) (m : MT_) : Prop := Strm t m ∧ t.fault = 0 ∧ A ≤ t.at_.toInt
theorem ok_tok {A : Int} {t : TP_} {m : MT_} (h : Ok2 A t m) : Tok t.token t.place t.value m := strm_tok h.1
theorem ok_adv {A : Int} {t : TP_} {m : MT_} (h : Ok2 A t m) (h2 : ¬ t.token = 102) (h3 : ¬ t.token = 103) : Ok2 (A + 1) (fAdvance t) (mGo m) := by
  obtain ⟨a, b, c⟩ := strm_adv h.1 h2 h3
  refine ⟨a, by rw [b]; exact h.2.1, ?_⟩
  obtain ⟨N, k, a1, a2, a3, a4, a5, a6, a7, a8, a9⟩ := h.1
  have nk : k + 1 < N := by
    rcases (show k + 1 < N ∨ k = N - 1 by omega) with q | q
    · exact q
    · rw [← q, ← a5] at a9
      rcases a9 with z | z
      · exact absurd z h2
      · exact absurd z h3
  have e1 := add1 (x := t.at_) (by omega)
  have e2 : (fAdvance t).at_ = t.at_ + 1 := by
    unfold fAdvance
    rw [if_neg (fun q => by have := leI.mp q; omega)]
    rfl
  have := h.2.2
  rw [e2]; omega
theorem fail_ok {A : Int} {t : TP_} {m : MT_} {n : NR_} {k : Int32} (h : Ok2 A t m) (hk : ¬ k = 0) (h1 : t.token = 103 → k = 1) : (fFail k t).1 = 0 ∧ (mBad k m n).1 = 0 ∧ Bad (fFail k t).2 (mBad k m n).2.2 := by
  have e : fFail k t = (0, TP_.w_fat (TP_.w_fault t k) t.place) := by
    unfold fFail; rw [if_pos h.2.1]
  have hm : (if m.kind = 1 then 1 else k) = k := by
    by_cases q : m.kind = 1
    · rw [if_pos q, h1 ((tok_bad (ok_tok h)).mp q)]
    · rw [if_neg q]
  refine ⟨by rw [e], rfl, ?_⟩
  rw [e]
  refine ⟨hk, ?_, ?_⟩
  · show k = if m.kind = 1 then 1 else k
    exact hm.symm
  · show t.place = m.frm
    exact (ok_tok h).1.symm
theorem tok_no {c p : Int32} {v : Int64} {m : MT_} {k : Int32} (e : c = k) (h : k.toInt < 102) : ¬ c = 102 ∧ ¬ c = 103 := by
  refine ⟨fun q => ?_, fun q => ?_⟩
  · rw [q] at e; rw [← e, k102] at h; omega
  · rw [q] at e; rw [← e, k103] at h; omega
theorem num_ok {A : Int} {t : TP_} {m : MT_} {n : NR_} {a b : Int32} (h : Ok2 A t m) (ha : 0 ≤ a.toInt) :
    ((fTakeNumber a b t).1 = -1 ∧ (mReadNumber a b m n).1 = 0 ∧ Bad (fTakeNumber a b t).2 (mReadNumber a b m n).2.2) ∨
    (∃ v : Int32, fTakeNumber a b t = (v, fAdvance t) ∧ ¬ v = -1 ∧ a.toInt ≤ v.toInt ∧ v.toInt ≤ b.toInt ∧ mReadNumber a b m n = (1, mGo m, NR_.w_told n v) ∧ Ok2 (A + 1) (fAdvance t) (mGo m)) := by
  have tk := ok_tok h
  by_cases q : t.token = 101
  · have q2 := (tok_num tk).mpr q
    rw [q] at tk
    obtain ⟨e1, e2, e3⟩ := tok_numv tk
    have no := tok_no (p := t.place) (v := t.value) (m := m) q (by decide)
    have v1 : t.value.toInt = m.number.toInt := by rw [e1]; exact toI64 _
    have a1 : (Int32.toInt64 a).toInt = a.toInt := toI64 a
    have b1 : (Int32.toInt64 b).toInt = b.toInt := toI64 b
    have bad2 : fTakeNumber a b t = (-1, (fFail 2 t).2) → mReadNumber a b m n = mBad 2 m n → ((fTakeNumber a b t).1 = -1 ∧ (mReadNumber a b m n).1 = 0 ∧ Bad (fTakeNumber a b t).2 (mReadNumber a b m n).2.2) := fun x y => by
      rw [x, y]
      exact ⟨rfl, (fail_ok (n := n) h (by decide) (fun z => absurd z no.2)).2.1, (fail_ok (n := n) (k := 2) h (by decide) (fun z => absurd z no.2)).2.2⟩
    have ltl : ∀ {x y : Int64}, lc_ x y < 0 ↔ x.toInt < y.toInt := fun {x y} => by
      unfold lc_
      by_cases z : x < y
      · rw [if_pos z]; exact ⟨fun _ => Int64.lt_iff_toInt_lt.mp z, fun _ => by decide⟩
      · rw [if_neg z]
        have z2 : ¬ x.toInt < y.toInt := fun w => z (Int64.lt_iff_toInt_lt.mpr w)
        by_cases z3 : x = y
        · rw [if_pos z3]; exact ⟨fun w => absurd w (by decide), fun w => absurd w z2⟩
        · rw [if_neg z3]; exact ⟨fun w => absurd w (by decide), fun w => absurd w z2⟩
    have lel : ∀ {x y : Int64}, lc_ x y ≤ 0 ↔ x.toInt ≤ y.toInt := fun {x y} => by
      unfold lc_
      by_cases z : x < y
      · rw [if_pos z]
        have := Int64.lt_iff_toInt_lt.mp z
        exact ⟨fun _ => by omega, fun _ => by decide⟩
      · rw [if_neg z]
        have z2 : ¬ x.toInt < y.toInt := fun w => z (Int64.lt_iff_toInt_lt.mpr w)
        by_cases z3 : x = y
        · rw [if_pos z3]; exact ⟨fun _ => by rw [z3]; omega, fun _ => by decide⟩
        · rw [if_neg z3]
          refine ⟨fun w => absurd w (by decide), fun w => absurd (l_ext (by omega)) z3⟩
    by_cases x1 : m.number < a
    · have y1 := ltI.mp x1
      refine Or.inl (bad2 ?_ ?_)
      · unfold fTakeNumber
        rw [if_pos q, if_pos (ltl.mpr (by rw [v1, a1]; exact y1))]
      · unfold mReadNumber isIn_
        rw [if_pos q2, if_pos x1, if_pos rfl]
    · have y1 : a.toInt ≤ m.number.toInt := by rw [ltI] at x1; omega
      by_cases x2 : b < m.number
      · have y2 := ltI.mp x2
        refine Or.inl (bad2 ?_ ?_)
        · unfold fTakeNumber
          rw [if_pos q, if_neg (fun w => by have := ltl.mp w; rw [v1, a1] at this; omega), if_neg (fun w => by have := lel.mp w; rw [v1, b1] at this; omega)]
        · unfold mReadNumber isIn_
          rw [if_pos q2, if_neg x1, if_pos x2, if_pos rfl]
      · have y2 : m.number.toInt ≤ b.toInt := by rw [ltI] at x2; omega
        refine Or.inr ⟨m.number, ?_, ?_, y1, y2, ?_, ok_adv h no.1 no.2⟩
        · unfold fTakeNumber
          rw [if_pos q, if_neg (fun w => by have := ltl.mp w; rw [v1, a1] at this; omega), if_pos (lel.mpr (by rw [v1, b1]; exact y2)), e1, Int32.toInt32_toInt64]
        · intro z
          rw [z] at e2
          exact absurd e2 (by decide)
        · unfold mReadNumber isIn_
          rw [if_pos q2, if_neg x1, if_neg x2, if_neg (by decide)]
  · have q2 : ¬ m.kind = 3 := fun z => q ((tok_num tk).mp z)
    refine Or.inl ?_
    unfold fTakeNumber mReadNumber
    rw [if_neg q, if_neg q2]
    exact ⟨rfl, (fail_ok (n := n) (k := 1) h (by decide) (fun _ => rfl)).2.1, (fail_ok (n := n) (k := 1) h (by decide) (fun _ => rfl)).2.2⟩
/-! names that are looked up -/
theorem fm_n {nm rn : Nat → Int64} {bb cnt : Int32} {v w : Int64} (h0 : 0 ≤ bb.toInt) (h1 : bb.toInt ≤ 7) (hc : cnt.toInt ≤ 7) (hv : Wd v w) (hn : ∀ j : Nat, (j : Int) < cnt.toInt → Wd (nm j) (rn (bb.toInt.toNat + j))) :
    ∀ (d : Nat) (i : Int32), 0 ≤ i.toInt → i.toInt + d = 8 → fnd nm cnt v i = mfnd rn bb cnt w i ∧ (fnd nm cnt v i = -1 ∨ (0 ≤ (fnd nm cnt v i).toInt ∧ (fnd nm cnt v i).toInt < cnt.toInt))
  | 0, i, hi, hd => by
    rw [fnd_eq (⟨hi, by omega⟩ : Rg 0 8 i), mfnd_eq (⟨hi, by omega⟩ : Rg 0 8 i), if_pos (leI.mpr (by omega)), if_pos (leI.mpr (by omega))]
    exact ⟨rfl, Or.inl rfl⟩
  | d + 1, i, hi, hd => by
    have e1 := add1 (x := i) (by omega)
    rw [fnd_eq (⟨hi, by omega⟩ : Rg 0 8 i), mfnd_eq (⟨hi, by omega⟩ : Rg 0 8 i)]
    by_cases q : cnt ≤ i
    · rw [if_pos q, if_pos q]; exact ⟨rfl, Or.inl rfl⟩
    · rw [if_neg q, if_neg q]
      rw [leI] at q
      have e2 : (bb + i).toInt = bb.toInt + i.toInt := i_add (by omega) (by omega)
      have e3 : (bb + i).toNatClampNeg = bb.toInt.toNat + i.toNatClampNeg := by rw [nnI, nnI]; omega
      have wj := hn i.toNatClampNeg (by rw [nnI]; omega)
      rw [e3]
      by_cases z : nm i.toNatClampNeg = v
      · rw [if_pos (lc_eq.mpr z), if_pos (lc_eq.mpr ((wd_inj wj hv).mp z))]
        exact ⟨rfl, Or.inr ⟨hi, by omega⟩⟩
      · rw [if_neg (fun y => z (lc_eq.mp y)), if_neg (fun y => z ((wd_inj wj hv).mpr (lc_eq.mp y)))]
        exact fm_n h0 h1 hc hv hn d (i + 1) (by omega) (by omega)
def TbR (b : TB_) (c : CP_) (x : XP_) (n : NR_) : Prop :=
  0 ≤ b.persons.toInt ∧ b.persons.toInt ≤ 7 ∧ 0 ≤ b.dishes.toInt ∧ b.dishes.toInt ≤ 6 ∧ n.rd 0 = b.persons ∧ n.rd 1 = b.dishes ∧ n.rd 2 = b.law ∧ n.rd 3 = b.dogs ∧
  (∀ j : Nat, (j : Int) < b.persons.toInt → Wd (b.pnm j) (n.rn j) ∧ n.rd (11 + j) = b.par j) ∧ (∀ j : Nat, (j : Int) < b.dishes.toInt → Wd (b.dnm j) (n.rn (7 + j))) ∧
  (∀ j : Nat, j < 42 → n.rd (30 + j) = c.pcs j) ∧ x.lt = n.hl ∧ x.dt = n.hd ∧ (∀ j : Nat, j < 42 → 0 ≤ (c.pcs j).toInt)
theorem find_p {b : TB_} {c : CP_} {x : XP_} {n : NR_} {v w : Int64} (h : TbR b c x n) (hv : Wd v w) : fPersonNamed v b = mfnd n.rn 0 b.persons w 0 ∧ (fPersonNamed v b = -1 ∨ (0 ≤ (fPersonNamed v b).toInt ∧ (fPersonNamed v b).toInt < b.persons.toInt)) := by
  obtain ⟨h1, h2, h3, h4, h5, h6, h7, h8, h9, ha, hb, hc, hd, he⟩ := h
  exact fm_n (by decide) (by decide) h2 hv (fun j hj => by rw [show (0 : Int32).toInt.toNat + j = j from by rw [k0]; omega]; exact (h9 j hj).1) 8 0 (by decide) (by decide)
theorem find_d {b : TB_} {c : CP_} {x : XP_} {n : NR_} {v w : Int64} (h : TbR b c x n) (hv : Wd v w) : fDishNamed v b = mfnd n.rn 7 b.dishes w 0 ∧ (fDishNamed v b = -1 ∨ (0 ≤ (fDishNamed v b).toInt ∧ (fDishNamed v b).toInt < b.dishes.toInt)) := by
  obtain ⟨h1, h2, h3, h4, h5, h6, h7, h8, h9, ha, hb, hc, hd, he⟩ := h
  exact fm_n (by decide) (by decide) (by omega) hv (fun j hj => by rw [show (7 : Int32).toInt.toNat + j = 7 + j from by rw [show (7 : Int32).toInt = 7 from by decide]; rfl]; exact ha j hj) 8 0 (by decide) (by decide)
/-- one that is named: a PERSON (k = 0) or a DISH (k = 7), f what the class found -/
theorem one_ok {A : Int} {t : TP_} {m : MT_} {n : NR_} {k cnt f : Int32} (h : Ok2 A t m) (hf : t.token = 100 → f = mfnd n.rn k cnt m.word 0) :
    ((t.token = 100 ∧ f = -1) ∨ ¬ t.token = 100) ∧ (mIsOne k cnt m n).1 = 0 ∧ Bad (fTakeName f t).2 (mIsOne k cnt m n).2.2 ∧ (fTakeName f t).1 = -1 ∨
    (t.token = 100 ∧ ¬ f = -1 ∧ mIsOne k cnt m n = (1, m, NR_.w_told n f) ∧ fTakeName f t = (f, fAdvance t) ∧ Ok2 (A + 1) (fAdvance t) (mGo m)) := by
  have tk := ok_tok h
  have nb : ∀ n2 : NR_, t.token = 100 → Bad (fFail 3 t).2 (mBad 3 m n2).2.2 := fun n2 q => (fail_ok (n := n2) (k := 3) h (by decide) (fun z => by rw [z] at q; exact absurd q (by decide))).2.2
  by_cases q : t.token = 100
  · have nn : ¬ mIsName m = 0 := fun z => (tok_name tk).mp z q
    have no := tok_no (p := t.place) (v := t.value) (m := m) q (by decide)
    have e := hf q
    by_cases z : f = -1
    · refine Or.inl ⟨Or.inl ⟨q, z⟩, ?_, ?_, ?_⟩
      · unfold mIsOne
        rw [if_neg nn, ← e]
        simp only []
        rw [if_pos z]
        exact congrArg Prod.fst (if_pos rfl)
      · have e1 : (mIsOne k cnt m n).2.2 = (mBad 3 m (NR_.w_told n f)).2.2 := by
          unfold mIsOne
          rw [if_neg nn, ← e]
          simp only []
          rw [if_pos z]
          exact congrArg (fun y : Int32 × MN_ => y.2.2) (if_pos rfl)
        have e2 : (fTakeName f t).2 = (fFail 3 t).2 := by unfold fTakeName; rw [if_pos q, if_pos z]
        rw [e1, e2]; exact nb _ q
      · unfold fTakeName; rw [if_pos q, if_pos z]
    · refine Or.inr ⟨q, z, ?_, ?_, ok_adv h no.1 no.2⟩
      · unfold mIsOne
        rw [if_neg nn, ← e]
        exact if_neg z
      · unfold fTakeName; rw [if_pos q, if_neg z]
  · have nn : mIsName m = 0 := (tok_name tk).mpr q
    have fk := fail_ok (n := n) (k := 1) h (by decide) (fun _ => rfl)
    refine Or.inl ⟨Or.inr q, ?_, ?_, ?_⟩
    · unfold mIsOne; rw [if_pos nn]; exact fk.2.1
    · unfold mIsOne fTakeName; rw [if_pos nn, if_neg q]; exact fk.2.2
    · unfold fTakeName; rw [if_neg q]
theorem new_ok {A : Int} {t : TP_} {m : MT_} {n : NR_} {b : TB_} {c : CP_} {x : XP_} {k : Int32} (h : Ok2 A t m) (hR : TbR b c x n) :
    ((fNewName t b c x).1 = 0 ∧ (mReadNew k m n).1 = 0 ∧ Bad (fNewName t b c x).2.1 (mReadNew k m n).2.2) ∨
    (fNewName t b c x = (1, fAdvance t, b, c, x) ∧ Wd t.value m.word ∧ mReadNew k m n = (1, mGo m, NR_.w_rn n (up1 n.rn k.toNatClampNeg m.word)) ∧ Ok2 (A + 1) (fAdvance t) (mGo m)) := by
  have tk := ok_tok h
  have r0 : n.rd 0 = b.persons := hR.2.2.2.2.1
  have r1 : n.rd 1 = b.dishes := hR.2.2.2.2.2.1
  by_cases q : t.token = 100
  · have nn : ¬ mIsName m = 0 := fun z => (tok_name tk).mp z q
    have no := tok_no (p := t.place) (v := t.value) (m := m) q (by decide)
    rw [q] at tk
    have hw := tok_wd tk
    obtain ⟨p1, p2⟩ := find_p hR hw
    obtain ⟨d1, d2⟩ := find_d hR hw
    have fk := fail_ok (n := n) (k := 3) h (by decide) (fun z => absurd z no.2)
    by_cases y1 : fPersonNamed t.value b = -1
    · by_cases y2 : fDishNamed t.value b = -1
      · refine Or.inr ⟨?_, hw, ?_, ok_adv h no.1 no.2⟩
        · unfold fNewName; rw [if_pos q, if_pos y1, if_pos y2]
        · unfold mReadNew; rw [if_neg nn, r0, r1, ← p1, ← d1, if_pos y1, if_pos y2]
      · refine Or.inl ?_
        unfold fNewName mReadNew fFailR
        rw [if_pos q, if_pos y1, if_neg y2, if_neg nn, r0, r1, ← p1, ← d1, if_pos y1, if_neg y2]
        exact fk
    · refine Or.inl ?_
      unfold fNewName mReadNew fFailR
      rw [if_pos q, if_neg y1, if_neg nn, r0, r1, ← p1, if_neg y1]
      exact fk
  · have nn : mIsName m = 0 := (tok_name tk).mpr q
    have fk := fail_ok (n := n) (k := 1) h (by decide) (fun _ => rfl)
    refine Or.inl ?_
    unfold fNewName mReadNew fFailR
    rw [if_neg q, if_pos nn]
    exact fk
/-! the outcome of a LINE -/
def LOut (A : Int) (q : Int32 × RS) (z : Int32 × MN_) : Prop := (q.1 = 0 ∧ z.1 = 0 ∧ Bad q.2.1 z.2.2) ∨ (¬ q.1 = 0 ∧ ¬ z.1 = 0 ∧ Ok2 A q.2.1 z.2.1 ∧ TbR q.2.2.1 q.2.2.2.1 q.2.2.2.2 z.2.2)
def mFin (z : Int32 × MN_) : Int32 × MN_ := if z.1 = 0 then z else mReadEnd z.2.1 z.2.2
theorem fin_0 {z : Int32 × MN_} (h : z.1 = 0) : mFin z = z := if_pos h
theorem fin_1 {z : Int32 × MN_} (h : ¬ z.1 = 0) : mFin z = mReadEnd z.2.1 z.2.2 := if_neg h
theorem out_0 {A : Int} {q : Int32 × RS} {z : Int32 × MN_} (h1 : q.1 = 0) (h2 : z.1 = 0) (h3 : Bad q.2.1 z.2.2) : LOut A q (mFin z) := by rw [fin_0 h2]; exact Or.inl ⟨h1, h2, h3⟩
theorem out_f {A B : Int} {t : TP_} {b : TB_} {c : CP_} {x : XP_} {m : MT_} {n : NR_} {k : Int32} (h : Ok2 A t m) (hk : ¬ k = 0) (h1 : t.token = 103 → k = 1) : LOut B (fFailR k t b c x) (mFin (mBad k m n)) := by
  have fk := fail_ok (n := n) h hk h1
  exact out_0 fk.1 fk.2.1 fk.2.2
theorem out_e {A : Int} {t : TP_} {b : TB_} {c : CP_} {x : XP_} {m : MT_} {n : NR_} (h : Ok2 A t m) (hR : TbR b c x n) : LOut (A + 1) (fTakeR 59 t b c x) (mFin (1, m, n)) := by
  rw [fin_1 (by decide : ¬ (1 : Int32) = 0)]
  have ts := tok_sign (s := 59) (ok_tok h) (by decide)
  by_cases q : t.token = 59
  · have no := tok_no (p := t.place) (v := t.value) (m := m) q (by decide)
    have e : mReadEnd m n = (1, mGo m, n) := by unfold mReadEnd; rw [if_neg (fun z => ts.mp z q)]
    have e2 : fTakeR 59 t b c x = (1, fAdvance t, b, c, x) := by unfold fTakeR fTake; rw [if_pos q]
    rw [e2]
    show LOut (A + 1) (1, fAdvance t, b, c, x) (mReadEnd m n)
    rw [e]
    exact Or.inr ⟨(by decide : ¬ (1 : Int32) = 0), (by decide : ¬ (1 : Int32) = 0), ok_adv h no.1 no.2, hR⟩
  · have fk := fail_ok (n := n) (k := 1) h (by decide) (fun _ => rfl)
    refine Or.inl ?_
    unfold fTakeR fTake mReadEnd
    rw [if_neg q, if_pos (ts.mpr q)]
    exact fk
