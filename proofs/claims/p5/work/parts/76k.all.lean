section TBL2
variable {b : TB_} {c : CP_} {x : XP_} {n : NR_} {A : Int} {t : TP_} {m : MT_}
theorem line_ok (h : Ok2 A t m) (hR : TbR b c x n) : LOut (A + 2) (fReadLine t b c x) (mFin (mReadLine m n)) := by
  have tk := ok_tok h
  have w0 : mIsWord 0 m = 0 ↔ ¬ t.token = 0 := tok_word (k := 0) tk (by decide)
  have w1 : mIsWord 1 m = 0 ↔ ¬ t.token = 1 := tok_word (k := 1) tk (by decide)
  have w3 : mIsWord 3 m = 0 ↔ ¬ t.token = 2 := tok_word (k := 3) tk (by decide)
  have w4 : mIsWord 4 m = 0 ↔ ¬ t.token = 3 := tok_word (k := 4) tk (by decide)
  have w8 : mIsWord 8 m = 0 ↔ ¬ t.token = 4 := tok_word (k := 8) tk (by decide)
  have eqk : ∀ {k : Int32} {i : Int}, k.toInt = i → (t.token.toInt = i ↔ t.token = k) := fun {k i} e => by rw [eqI, e]
  unfold fReadLine mReadLine
  by_cases z0 : t.token = 0
  · rw [if_pos ((eqk k0).mpr z0), if_neg (fun w => w0.mp w z0)]
    exact line_person h hR z0
  · rw [if_neg (fun w => z0 ((eqk k0).mp w)), if_pos (w0.mpr z0)]
    by_cases z1 : t.token = 1
    · rw [if_pos ((eqk k1).mpr z1), if_neg (fun w => w1.mp w z1)]
      exact line_dish h hR z1
    · rw [if_neg (fun w => z1 ((eqk k1).mp w)), if_pos (w1.mpr z1)]
      by_cases z2 : t.token = 2
      · rw [if_pos ((eqk k2).mpr z2), if_neg (fun w => w3.mp w z2)]
        exact line_plate h hR z2
      · rw [if_neg (fun w => z2 ((eqk k2).mp w)), if_pos (w3.mpr z2)]
        by_cases z3 : t.token = 3
        · rw [if_pos ((eqk k3).mpr z3), if_neg (fun w => w4.mp w z3)]
          exact line_law h hR z3
        · rw [if_neg (fun w => z3 ((eqk k3).mp w)), if_pos (w4.mpr z3)]
          by_cases z4 : t.token = 4
          · rw [if_pos ((eqk k4).mpr z4), if_neg (fun w => w8.mp w z4)]
            exact line_dogs h hR z4
          · rw [if_neg (fun w => z4 ((eqk k4).mp w)), if_pos (w8.mpr z4)]
            exact out_f h (by decide) (fun _ => rfl)
end TBL2
/-! all LINES -/
def LsOut (q : Int32 × RS) (z : Int32 × MN_) : Prop := (q.2.1.fault = 0 ∧ z.1 = q.1 ∧ TbR q.2.2.1 q.2.2.2.1 q.2.2.2.2 z.2.2) ∨ (¬ q.2.1.fault = 0 ∧ z.1 = -1 - q.2.1.fat)
theorem lines_ok : ∀ (F : Nat) (i : Int32) (s : RS) (z : MN_), 0 ≤ i.toInt → i.toInt + F = 941 → Ok2 (2 * i.toInt) s.1 z.1 → TbR s.2.1 s.2.2.1 s.2.2.2 z.2 → LsOut (rl i s) (mtl F i z)
  | 0, i, s, z, h0, hF, hO, hR => by
    have := hO.2.2
    obtain ⟨N, k, a1, a2, a3, a4, a5⟩ := hO.1
    omega
  | F + 1, i, s, z, h0, hF, hO, hR => by
    have h450 : i.toInt ≤ 450 := by
      have := hO.2.2
      obtain ⟨N, k, a1, a2, a3, a4, a5⟩ := hO.1
      omega
    have e1 := add1 (x := i) (by omega)
    have tk := ok_tok hO
    rw [rl_eq (⟨h0, by omega⟩ : Rg 0 900 i), mtl_eq, if_neg (fun w => by have := leI.mp w; rw [show (900 : Int32).toInt = 900 from by decide] at this; omega)]
    by_cases q : s.1.token = 102
    · rw [if_pos q, if_pos ((tok_stop tk).mpr q)]
      exact Or.inl ⟨hO.2.1, rfl, hR⟩
    · rw [if_neg q, if_neg (fun w => q ((tok_stop tk).mp w))]
      have lo := line_ok hO hR
      obtain ⟨Q, hQ⟩ : ∃ Q, fReadLine s.1 s.2.1 s.2.2.1 s.2.2.2 = Q := ⟨_, rfl⟩
      obtain ⟨Z, hZ⟩ : ∃ Z, mReadLine z.1 z.2 = Z := ⟨_, rfl⟩
      rw [hQ, hZ] at lo ⊢
      rcases lo with ⟨a1, a2, a3⟩ | ⟨a1, a2, a3, a4⟩
      · rw [if_pos a1]
        refine Or.inr ⟨a3.1, ?_⟩
        by_cases y : Z.1 = 0
        · rw [fin_0 y] at a3
          rw [if_pos y]
          show -1 - Z.2.2.mplace = _
          rw [a3.2.2]
        · rw [fin_1 y] at a2 a3
          rw [if_neg y, if_pos a2]
          show -1 - (mReadEnd Z.2.1 Z.2.2).2.2.mplace = _
          rw [a3.2.2]
      · rw [if_neg a1]
        have y : ¬ Z.1 = 0 := fun y => by rw [fin_0 y] at a2; exact a2 y
        rw [fin_1 y] at a2 a3 a4
        rw [if_neg y, if_neg a2]
        exact lines_ok F (i + 1) Q.2 (mReadEnd Z.2.1 Z.2.2).2 (by omega) (by omega) (by rw [e1, show 2 * (i.toInt + 1) = 2 * i.toInt + 2 by omega]; exact a3) a4
/-! the start -/
theorem fz_n : ∀ (d : Nat) (i : Int32) (c : CP_), 0 ≤ i.toInt → i.toInt + d = 42 → ∀ j : Nat, ((j : Int) < i.toInt → (fz i c).pcs j = c.pcs j) ∧ (i.toInt ≤ j → j < 42 → (fz i c).pcs j = 0)
  | 0, i, c, h0, hd => fun j => by
    rw [fz_eq (⟨h0, by omega⟩ : Rg 0 42 i), if_pos (leI.mpr (by rw [show (42 : Int32).toInt = 42 from by decide]; omega))]
    exact ⟨fun _ => rfl, fun h1 h2 => by omega⟩
  | d + 1, i, c, h0, hd => fun j => by
    have e1 := add1 (x := i) (by omega)
    rw [fz_eq (⟨h0, by omega⟩ : Rg 0 42 i), if_neg (fun w => by have := leI.mp w; rw [show (42 : Int32).toInt = 42 from by decide] at this; omega)]
    obtain ⟨a1, a2⟩ := fz_n d (i + 1) (CP_.w_pcs c (up1 c.pcs i.toNatClampNeg 0)) (by omega) (by omega) j
    refine ⟨fun h => ?_, fun h1 h2 => ?_⟩
    · rw [a1 (by omega)]
      show up1 c.pcs i.toNatClampNeg 0 j = _
      rw [up1_j (by rw [nnI]; omega)]
    · by_cases z : (j : Int) = i.toInt
      · rw [a1 (by omega)]
        show up1 c.pcs i.toNatClampNeg 0 j = _
        rw [show j = i.toNatClampNeg by rw [nnI]; omega, up1_s]
      · exact a2 (by omega) h2
theorem mzr_n : ∀ (d : Nat) (i : Int32) (n : NR_), 0 ≤ i.toInt → i.toInt + d = 72 → (∃ r : Nat → Int32, mzr i n = NR_.w_rd n r ∧ ∀ j : Nat, ((j : Int) < i.toInt → r j = n.rd j) ∧ (i.toInt ≤ j → j < 72 → r j = 0))
  | 0, i, n, h0, hd => by
    rw [mzr_eq (⟨h0, by omega⟩ : Rg 0 72 i), if_pos (leI.mpr (by rw [show (72 : Int32).toInt = 72 from by decide]; omega))]
    exact ⟨n.rd, rfl, fun j => ⟨fun _ => rfl, fun h1 h2 => by omega⟩⟩
  | d + 1, i, n, h0, hd => by
    have e1 := add1 (x := i) (by omega)
    rw [mzr_eq (⟨h0, by omega⟩ : Rg 0 72 i), if_neg (fun w => by have := leI.mp w; rw [show (72 : Int32).toInt = 72 from by decide] at this; omega)]
    obtain ⟨r, a1, a2⟩ := mzr_n d (i + 1) (NR_.w_rd n (up1 n.rd i.toNatClampNeg 0)) (by omega) (by omega)
    refine ⟨r, by rw [a1]; rfl, fun j => ⟨fun h => ?_, fun h1 h2 => ?_⟩⟩
    · rw [(a2 j).1 (by omega)]
      show up1 n.rd i.toNatClampNeg 0 j = _
      rw [up1_j (by rw [nnI]; omega)]
    · by_cases z : (j : Int) = i.toInt
      · rw [(a2 j).1 (by omega)]
        show up1 n.rd i.toNatClampNeg 0 j = _
        rw [show j = i.toNatClampNeg by rw [nnI]; omega, up1_s]
      · exact (a2 j).2 (by omega) h2
/-- both read the same TABLE, out of the same bytes -/
theorem table_ok {t : TP_} {b : TB_} {c : CP_} {x : XP_} {m : MT_} {n : NR_} (hl : t.len = n.taped) (h0 : 0 ≤ n.taped.toInt) (h9 : n.taped.toInt ≤ 940) (hB : ∀ j : Nat, (j : Int) < n.taped.toInt → By_ (t.by_ j) (m.tp j)) (hw : Wk_ t.wd) :
    LsOut (fReadFrom t b c x) (mtl 941 0 (mTbStart m n)) := by
  have bg := beg (s := t) (m := MT_.w_to (MT_.w_limit (MT_.w_size m n.taped) 900) 0) (most := 900) h9 h0 (by decide) (by decide) hl rfl rfl hB hw
  obtain ⟨r, z1, z2⟩ := mzr_n 72 0 (NR_.w_mfault (NR_.w_taped n 0) 0) (by decide) (by decide)
  have em : mTbStart m n = (mGo (MT_.w_to (MT_.w_limit (MT_.w_size m n.taped) 900) 0), NR_.w_hd (NR_.w_hl (mzr 0 (NR_.w_mfault (NR_.w_taped n 0) 0)) 0) 0) := by simp only [mTbStart, mTz, mBegin, mTake]
  rw [em, z1]
  have rz : ∀ j : Nat, j < 72 → r j = 0 := fun j hj => (z2 j).2 (by rw [k0]; omega) hj
  have cz : ∀ j : Nat, j < 42 → (fForgetC c).pcs j = 0 := fun j hj => (fz_n 42 0 c (by decide) (by decide) j).2 (by rw [k0]; omega) hj
  refine lines_ok 941 0 (fRfStart t b c x) (_, _) (by decide) (by decide) ⟨bg.1, bg.2, ?_⟩ ⟨(show 0 ≤ (0 : Int32).toInt from by decide), (show (0 : Int32).toInt ≤ 7 from by decide), (show 0 ≤ (0 : Int32).toInt from by decide), (show (0 : Int32).toInt ≤ 6 from by decide), rz 0 (by decide), rz 1 (by decide), rz 2 (by decide), rz 3 (by decide), fun j hj => ?_, fun j hj => ?_, fun j hj => ?_, rfl, rfl, fun j hj => ?_⟩
  · obtain ⟨N, k, a1, a2, a3, a4, a5⟩ := bg.1
    show 2 * (0 : Int32).toInt ≤ (fBegin 900 t).at_.toInt
    rw [a4, k0]; omega
  · have : (j : Int) < (0 : Int32).toInt := hj
    rw [k0] at this; omega
  · have : (j : Int) < (0 : Int32).toInt := hj
    rw [k0] at this; omega
  · exact (rz (30 + j) (by omega)).trans (cz j hj).symm
  · show 0 ≤ ((fForgetC c).pcs j).toInt
    rw [cz j hj]; decide
theorem table_eq {t : TP_} {b : TB_} {c : CP_} {x : XP_} {m : MT_} {n : NR_} (hl : t.len = n.taped) (h0 : 0 ≤ n.taped.toInt) (h9 : n.taped.toInt ≤ 940) (hB : ∀ j : Nat, (j : Int) < n.taped.toInt → By_ (t.by_ j) (m.tp j)) (hw : Wk_ t.wd) :
    fTable t b c x = mTable m n := by
  have h := table_ok (b := b) (c := c) (x := x) hl h0 h9 hB hw
  unfold fTable mTable
  rcases h with ⟨a1, a2, a3⟩ | ⟨a1, a2⟩
  · simp only []
    rw [if_pos a1, a2]
  · simp only []
    rw [if_neg a1, a2]
