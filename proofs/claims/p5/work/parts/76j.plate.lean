section TBL2
variable {b : TB_} {c : CP_} {x : XP_} {n : NR_} {A : Int} {t : TP_} {m : MT_}
theorem idx2 {p d : Int32} (h0 : 0 ≤ p.toInt) (h1 : p.toInt ≤ 6) (h2 : 0 ≤ d.toInt) (h3 : d.toInt ≤ 5) : (p * 6 + d).toNatClampNeg = p.toInt.toNat * 6 + d.toInt.toNat ∧ (30 + 6 * p + d).toNatClampNeg = 30 + (p.toInt.toNat * 6 + d.toInt.toNat) ∧ p.toInt.toNat * 6 + d.toInt.toNat < 42 := by
  have t6 : (6 : Int32).toInt = 6 := by decide
  have t30 : (30 : Int32).toInt = 30 := by decide
  have e1 : (p * 6).toInt = p.toInt * 6 := by rw [i_mul (by rw [t6]; omega) (by rw [t6]; omega), t6]
  have e2 : (p * 6 + d).toInt = p.toInt * 6 + d.toInt := by rw [i_add (by rw [e1]; omega) (by rw [e1]; omega), e1]
  have e3 : (6 * p).toInt = 6 * p.toInt := by rw [i_mul (by rw [t6]; omega) (by rw [t6]; omega), t6]
  have e4 : (30 + 6 * p).toInt = 30 + 6 * p.toInt := by rw [i_add (by rw [e3, t30]; omega) (by rw [e3, t30]; omega), e3, t30]
  have e5 : (30 + 6 * p + d).toInt = 30 + 6 * p.toInt + d.toInt := by rw [i_add (by rw [e4]; omega) (by rw [e4]; omega), e4]
  rw [nnI, nnI]
  omega
theorem line_plate (h : Ok2 A t m) (hR : TbR b c x n) (ht : t.token = 2) : LOut (A + 2) (fReadPlate t b c x) (mFin (mReadPlate m n)) := by
  have no := tok_no (p := t.place) (v := t.value) (m := m) ht (by decide)
  have r0 : n.rd 0 = b.persons := hR.2.2.2.2.1
  have r1 : n.rd 1 = b.dishes := hR.2.2.2.2.2.1
  have h1 := ok_adv h no.1 no.2
  have ho := one_ok (n := n) (k := 0) (cnt := n.rd 0) (f := fPersonNamed (fAdvance t).value b) h1 (fun w => by
    have tk := ok_tok h1
    rw [w] at tk
    rw [r0]; exact (find_p hR (tok_wd tk)).1)
  rcases ho with ⟨w1, w2, w3, w4⟩ | ⟨w1, w2, w3, w4, h2⟩
  · have e1 : mReadOne 0 (n.rd 0) (mGo m) n = (0, (mIsOne 0 (n.rd 0) (mGo m) n).2) := by unfold mReadOne; simp only [w2, if_true]
    have ec : fReadPlate t b c x = (0, (fTakeName (fPersonNamed (fAdvance t).value b) (fAdvance t)).2, b, c, x) := by
      unfold fReadPlate
      simp only [w4, if_true]
    have em : mReadPlate m n = (0, (mIsOne 0 (n.rd 0) (mGo m) n).2) := by
      unfold mReadPlate
      simp only [e1, if_true]
    rw [ec, em]
    obtain ⟨Z, hZ⟩ : ∃ Z, mIsOne 0 (n.rd 0) (mGo m) n = Z := ⟨_, rfl⟩
    rw [hZ] at w3 ⊢
    exact out_y (q := (_, b, c, x)) w3
  · have pr : 0 ≤ (fPersonNamed (fAdvance t).value b).toInt ∧ (fPersonNamed (fAdvance t).value b).toInt < b.persons.toInt := by
      have tk := ok_tok h1
      rw [w1] at tk
      rcases (find_p hR (tok_wd tk)).2 with y | y
      · exact absurd y w2
      · exact y
    obtain ⟨p, hp⟩ : ∃ p, fPersonNamed (fAdvance t).value b = p := ⟨_, rfl⟩
    rw [hp] at w2 w3 w4 pr
    have e1 : mReadOne 0 (n.rd 0) (mGo m) n = (1, mGo (mGo m), NR_.w_told n p) := by unfold mReadOne; simp only [w3, one0, if_false]
    obtain ⟨n1, hn1⟩ : ∃ z, NR_.w_told n p = z := ⟨_, rfl⟩
    have R1 : TbR b c x n1 := by rw [← hn1]; exact tb_told hR
    have to1 : n1.told = p := by rw [← hn1]; rfl
    have rd1 : n1.rd = n.rd := by rw [← hn1]; rfl
    rw [hn1] at e1
    have ho2 := one_ok (n := n1) (k := 7) (cnt := n1.rd 1) (f := fDishNamed (fAdvance (fAdvance t)).value b) h2 (fun w => by
      have tk := ok_tok h2
      rw [w] at tk
      rw [rd1, r1]; exact (find_d R1 (tok_wd tk)).1)
    rcases ho2 with ⟨v1, v2, v3, v4⟩ | ⟨v1, v2, v3, v4, h3⟩
    · have ec : fReadPlate t b c x = (0, (fTakeName (fDishNamed (fAdvance (fAdvance t)).value b) (fAdvance (fAdvance t))).2, b, c, x) := by
        unfold fReadPlate
        simp only [hp, w4, eq_false w2, if_false]
        have e3 : fReadPlate3 p (fDishNamed (fAdvance (fAdvance t)).value b) (fAdvance (fAdvance t)) b c x = (0, (fTakeName (fDishNamed (fAdvance (fAdvance t)).value b) (fAdvance (fAdvance t))).2, b, c, x) := by
          unfold fReadPlate3
          simp only [v4, if_true]
        rcases v1 with v1 | v1
        · rw [if_pos v1.1, if_pos v1.2, e3]
        · rw [if_neg v1, e3]
      have em : mReadPlate m n = (0, (mIsOne 7 (n1.rd 1) (mGo (mGo m)) n1).2) := by
        unfold mReadPlate
        simp only [e1, one0, if_false, v2, if_true]
      rw [ec, em]
      obtain ⟨Z, hZ⟩ : ∃ Z, mIsOne 7 (n1.rd 1) (mGo (mGo m)) n1 = Z := ⟨_, rfl⟩
      rw [hZ] at v3 ⊢
      exact out_y (q := (_, b, c, x)) v3
    · have dr : 0 ≤ (fDishNamed (fAdvance (fAdvance t)).value b).toInt ∧ (fDishNamed (fAdvance (fAdvance t)).value b).toInt < b.dishes.toInt := by
        have tk := ok_tok h2
        rw [v1] at tk
        rcases (find_d R1 (tok_wd tk)).2 with y | y
        · exact absurd y v2
        · exact y
      obtain ⟨d, hd⟩ : ∃ d, fDishNamed (fAdvance (fAdvance t)).value b = d := ⟨_, rfl⟩
      rw [hd] at v2 v3 v4 dr
      have p7 := hR.2.1
      have d6 := hR.2.2.2.1
      obtain ⟨i1, i2, i3⟩ := idx2 (p := p) (d := d) pr.1 (by omega) dr.1 (by omega)
      obtain ⟨K, hK⟩ : ∃ K, p.toInt.toNat * 6 + d.toInt.toNat = K := ⟨_, rfl⟩
      rw [hK] at i1 i2 i3
      have pl := hR.2.2.2.2.2.2.2.2.2.2.1 K i3
      have pg := hR.2.2.2.2.2.2.2.2.2.2.2.2.2 K i3
      have op : fOnPlate p d c = c.pcs K := by unfold fOnPlate; rw [i1]
      by_cases z : c.pcs K ≤ 0
      · have z0 : c.pcs K = 0 := i_ext (by have := leI.mp z; rw [k0] at this ⊢; omega)
        have zr : n1.rd (30 + 6 * p + d).toNatClampNeg ≤ 0 := by rw [i2, rd1, pl]; exact z
        rcases num_ok (n := NR_.w_told n1 d) (a := 1) (b := 40) h3 (by decide) with ⟨y1, y2, y3⟩ | ⟨v, y1, y2, y3, y4, y5, h4⟩
        · have ec : fReadPlate t b c x = (0, (fTakeNumber 1 40 (fAdvance (fAdvance (fAdvance t)))).2, b, c, x) := by
            unfold fReadPlate fReadPlate3
            simp only [hp, w4, eq_false w2, if_false, hd, eq_true v1, eq_false v2, op, eq_true z, if_true, v4, y1]
          have em : mReadPlate m n = (0, (mReadNumber 1 40 (mGo (mGo (mGo m))) (NR_.w_told n1 d)).2.1, (mReadNumber 1 40 (mGo (mGo (mGo m))) (NR_.w_told n1 d)).2.2) := by
            unfold mReadPlate
            simp only [e1, one0, if_false, v3, to1]
            refine (if_pos zr).trans ?_
            simp only [y2, put_0]
          rw [ec, em]
          exact out_z y3
        · have ec : fReadPlate t b c x = fTakeR 59 (fAdvance (fAdvance (fAdvance (fAdvance t)))) b (CP_.w_pcs c (up1 c.pcs K v)) x := by
            have ea : fAddToPlate p d v c = CP_.w_pcs c (up1 c.pcs K v) := by
              unfold fAddToPlate
              rw [i1, z0, Int32.zero_add]
            unfold fReadPlate fReadPlate3
            simp only [hp, w4, eq_false w2, if_false, hd, eq_true v1, eq_false v2, op, eq_true z, if_true, v4, y1, eq_false y2, ea]
          have em : mReadPlate m n = (1, mGo (mGo (mGo (mGo m))), NR_.w_rd (NR_.w_told (NR_.w_told n1 d) v) (up1 n1.rd (30 + K) v)) := by
            unfold mReadPlate
            simp only [e1, one0, if_false, v3, to1]
            refine (if_pos zr).trans ?_
            have e9 : (NR_.w_told n1 d).told = d := rfl
            simp only [y5, put_1, e9, i2]
            rfl
          rw [ec, em]
          refine out_le (out_e h4 ?_) (show A + 2 ≤ A + 1 + 1 + 1 + 1 + 1 by omega)
          exact tb_plate (n := NR_.w_told (NR_.w_told n1 d) v) (tb_told (tb_told R1)) i3 (by rw [show (1 : Int32).toInt = 1 from by decide] at y3; omega)
      · have zr : ¬ n1.rd (30 + 6 * p + d).toNatClampNeg ≤ 0 := by rw [i2, rd1, pl]; exact z
        have no2 := tok_no (p := t.place) (v := t.value) (m := m) v1 (by decide)
        have ec : fReadPlate t b c x = fFailR 3 (fAdvance (fAdvance t)) b c x := by
          unfold fReadPlate
          simp only [hp, w4, eq_false w2, if_false, hd, eq_true v1, eq_false v2, op, eq_false z, if_true]
        have em : mReadPlate m n = mBad 3 (mGo (mGo m)) (NR_.w_told n1 d) := by
          unfold mReadPlate
          simp only [e1, one0, if_false, v3, to1]
          exact if_neg zr
        rw [ec, em]
        exact out_f h2 (by decide) (fun w => absurd w no2.2)
end TBL2
