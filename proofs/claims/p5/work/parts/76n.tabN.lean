/-! the names that both have read -/
def LsN (q : Int32 × RS) (o : Option (Nat → Int64)) : Prop := (q.2.1.fault = 0 ∧ ∃ n : NR_, o = some n.rn ∧ TbR q.2.2.1 q.2.2.2.1 q.2.2.2.2 n) ∨ (¬ q.2.1.fault = 0 ∧ o = none)
theorem linesN : ∀ (F : Nat) (i : Int32) (s : RS) (z : MN_), 0 ≤ i.toInt → i.toInt + F = 941 → Ok2 (2 * i.toInt) s.1 z.1 → TbR s.2.1 s.2.2.1 s.2.2.2 z.2 → LsN (rl i s) (mtlN F i z)
  | 0, i, s, z, h0, hF, hO, hR => by
    have := hO.2.2
    obtain ⟨N, k, a1, a2, a3, a4, a5⟩ := hO.1
    omega
  | F + 1, i, s, z, h0, hF, hO, hR => by
    have h450 : i.toInt ≤ 450 := by
      have := hO.2.2
      obtain ⟨N, k, a1, a2, a3, a4, a5⟩ := hO.1
      omega
    have e1 := add1 (x := i) (by omega)
    have tk := ok_tok hO
    rw [rl_eq (⟨h0, by omega⟩ : Rg 0 900 i), mtlN_eq, if_neg (fun w => by have := leI.mp w; rw [show (900 : Int32).toInt = 900 from by decide] at this; omega)]
    by_cases q : s.1.token = 102
    · rw [if_pos q, if_pos ((tok_stop tk).mpr q)]
      exact Or.inl ⟨hO.2.1, z.2, rfl, hR⟩
    · rw [if_neg q, if_neg (fun w => q ((tok_stop tk).mp w))]
      have lo := line_ok hO hR
      obtain ⟨Q, hQ⟩ : ∃ Q, fReadLine s.1 s.2.1 s.2.2.1 s.2.2.2 = Q := ⟨_, rfl⟩
      obtain ⟨Z, hZ⟩ : ∃ Z, mReadLine z.1 z.2 = Z := ⟨_, rfl⟩
      rw [hQ, hZ] at lo ⊢
      rcases lo with ⟨a1, a2, a3⟩ | ⟨a1, a2, a3, a4⟩
      · rw [if_pos a1]
        refine Or.inr ⟨a3.1, ?_⟩
        by_cases y : Z.1 = 0
        · rw [if_pos y]
        · rw [fin_1 y] at a2
          rw [if_neg y, if_pos a2]
      · rw [if_neg a1]
        have y : ¬ Z.1 = 0 := fun y => by rw [fin_0 y] at a2; exact a2 y
        rw [fin_1 y] at a2 a3 a4
        rw [if_neg y, if_neg a2]
        exact linesN F (i + 1) Q.2 (mReadEnd Z.2.1 Z.2.2).2 (by omega) (by omega) (by rw [e1, show 2 * (i.toInt + 1) = 2 * i.toInt + 2 by omega]; exact a3) a4
theorem tableN_ok {t : TP_} {b : TB_} {c : CP_} {x : XP_} {m : MT_} {n : NR_} (hl : t.len = n.taped) (h0 : 0 ≤ n.taped.toInt) (h9 : n.taped.toInt ≤ 940) (hB : ∀ j : Nat, (j : Int) < n.taped.toInt → By_ (t.by_ j) (m.tp j)) (hw : Wk_ t.wd) :
    LsN (fReadFrom t b c x) (mtlN 941 0 (mTbStart m n)) := by
  have bg := beg (s := t) (m := MT_.w_to (MT_.w_limit (MT_.w_size m n.taped) 900) 0) (most := 900) h9 h0 (by decide) (by decide) hl rfl rfl hB hw
  obtain ⟨r, z1, z2⟩ := mzr_n 72 0 (NR_.w_mfault (NR_.w_taped n 0) 0) (by decide) (by decide)
  have em : mTbStart m n = (mGo (MT_.w_to (MT_.w_limit (MT_.w_size m n.taped) 900) 0), NR_.w_hd (NR_.w_hl (mzr 0 (NR_.w_mfault (NR_.w_taped n 0) 0)) 0) 0) := by simp only [mTbStart, mTz, mBegin, mTake]
  rw [em, z1]
  have rz : ∀ j : Nat, j < 72 → r j = 0 := fun j hj => (z2 j).2 (by rw [k0]; omega) hj
  have cz : ∀ j : Nat, j < 42 → (fForgetC c).pcs j = 0 := fun j hj => (fz_n 42 0 c (by decide) (by decide) j).2 (by rw [k0]; omega) hj
  refine linesN 941 0 (fRfStart t b c x) (_, _) (by decide) (by decide) ⟨bg.1, bg.2, ?_⟩ ⟨(show 0 ≤ (0 : Int32).toInt from by decide), (show (0 : Int32).toInt ≤ 7 from by decide), (show 0 ≤ (0 : Int32).toInt from by decide), (show (0 : Int32).toInt ≤ 6 from by decide), rz 0 (by decide), rz 1 (by decide), rz 2 (by decide), rz 3 (by decide), fun j hj => ?_, fun j hj => ?_, fun j hj => ?_, rfl, rfl, fun j hj => ?_⟩
  · obtain ⟨N, k, a1, a2, a3, a4, a5⟩ := bg.1
    show 2 * (0 : Int32).toInt ≤ (fBegin 900 t).at_.toInt
    rw [a4, k0]; omega
  · have : (j : Int) < (0 : Int32).toInt := hj
    rw [k0] at this; omega
  · have : (j : Int) < (0 : Int32).toInt := hj
    rw [k0] at this; omega
  · exact (rz (30 + j) (by omega)).trans (cz j hj).symm
  · show 0 ≤ ((fForgetC c).pcs j).toInt
    rw [cz j hj]; decide
/-- a table's names, and those of a row -/
def Tn2_ (b : TB_) (f : Nat → Int64) : Prop := (∀ j : Nat, (j : Int) < b.persons.toInt → Wd (b.pnm j) (f j)) ∧ ∀ j : Nat, (j : Int) < b.dishes.toInt → Wd (b.dnm j) (f (7 + j))
theorem tableN_eq {t : TP_} {b : TB_} {c : CP_} {x : XP_} {m : MT_} {n : NR_} (hl : t.len = n.taped) (h0 : 0 ≤ n.taped.toInt) (h9 : n.taped.toInt ≤ 940) (hB : ∀ j : Nat, (j : Int) < n.taped.toInt → By_ (t.by_ j) (m.tp j)) (hw : Wk_ t.wd) :
    (fTableB t b c x = none ∧ mTableN m n = none) ∨ ∃ b2 rn, fTableB t b c x = some b2 ∧ mTableN m n = some rn ∧ Tn2_ b2 rn ∧ b2.persons.toInt ≤ 7 ∧ b2.dishes.toInt ≤ 6 := by
  have h := tableN_ok (b := b) (c := c) (x := x) hl h0 h9 hB hw
  unfold fTableB mTableN
  rcases h with ⟨a1, n2, a2, a3⟩ | ⟨a1, a2⟩
  · refine Or.inr ⟨_, _, ?_, a2, ⟨fun j hj => (a3.2.2.2.2.2.2.2.2.1 j hj).1, fun j hj => a3.2.2.2.2.2.2.2.2.2.1 j hj⟩, a3.2.1, a3.2.2.2.1⟩
    simp only []
    rw [if_pos a1]
  · refine Or.inl ⟨?_, a2⟩
    simp only []
    rw [if_neg a1]
