section TBL2
variable {b : TB_} {c : CP_} {x : XP_} {n : NR_} {A : Int} {t : TP_} {m : MT_}
theorem line_dish (h : Ok2 A t m) (hR : TbR b c x n) (ht : t.token = 1) : LOut (A + 2) (fReadDish t b c x) (mFin (mReadDish m n)) := by
  have no := tok_no (p := t.place) (v := t.value) (m := m) ht (by decide)
  have r1 : n.rd 1 = b.dishes := hR.2.2.2.2.2.1
  have t6 : (6 : Int32).toInt = 6 := by decide
  have p0 := hR.2.2.1
  have p6 := hR.2.2.2.1
  have pp := hR.2.1
  by_cases q : b.dishes < 6
  · have q2 := ltI.mp q
    rw [t6] at q2
    have f1 : mReadFirst 1 6 m n = (1, mGo m, n) := by
      unfold mReadFirst
      rw [if_neg]
      show ¬ n.rd 1 = 6
      rw [r1, eqI, t6]; omega
    have h1 := ok_adv h no.1 no.2
    have k7 : (7 + n.rd 1).toNatClampNeg = 7 + b.dishes.toInt.toNat := by rw [r1]; exact idx (by decide) p0 (by omega) (by decide)
    have k18 : (18 + n.rd 1).toNatClampNeg = 18 + b.dishes.toInt.toNat := by rw [r1]; exact idx (by decide) p0 (by omega) (by decide)
    have k24 : (24 + n.rd 1).toNatClampNeg = 24 + b.dishes.toInt.toNat := by rw [r1]; exact idx (by decide) p0 (by omega) (by decide)
    rcases new_ok (k := 7 + n.rd 1) h1 hR with ⟨x1, x2, x3⟩ | ⟨x1, x2, x3, h2⟩
    · have ec : fReadDish t b c x = (0, (fNewName (fAdvance t) b c x).2) := by
        unfold fReadDish
        simp only [eq_true q, x1, if_true]
      have em : mReadDish m n = (0, (mReadNew (7 + n.rd 1) (mGo m) n).2) := by
        unfold mReadDish
        simp only [f1, x2, one0, if_true, if_false]
      rw [ec, em]
      exact out_y x3
    · rw [k7] at x3
      have R2 := tb_rn (k := 7 + b.dishes.toInt.toNat) (w := (mGo m).word) hR (by omega) (Or.inr (by omega))
      obtain ⟨n2, hn2⟩ : ∃ z, NR_.w_rn n (up1 n.rn (7 + b.dishes.toInt.toNat) (mGo m).word) = z := ⟨_, rfl⟩
      have rn2 : n2.rn (7 + b.dishes.toInt.toNat) = (mGo m).word := by rw [← hn2]; exact up1_s
      rw [hn2] at R2 x3
      rcases num_ok (n := n2) (a := 0) (b := 99) h2 (by decide) with ⟨y1, y2, y3⟩ | ⟨v, y1, y2, y3, y4, y5, h3⟩
      · have ec : fReadDish t b c x = (0, (fTakeNumber 0 99 (fAdvance (fAdvance t))).2, b, c, x) := by
          unfold fReadDish
          simp only [eq_true q, x1, one0, if_true, if_false, y1]
        have em : mReadDish m n = (0, (mReadNumber 0 99 (mGo (mGo m)) n2).2.1, (mReadNumber 0 99 (mGo (mGo m)) n2).2.2) := by
          unfold mReadDish
          simp only [f1, x3, one0, if_true, if_false, y2, put_0]
        rw [ec, em]
        exact out_z y3
      · have R4 : TbR b c x (NR_.w_rd (NR_.w_told n2 v) (up1 n2.rd (18 + n.rd 1).toNatClampNeg v)) := by
          rw [k18]; exact tb_rd (tb_told R2) (by omega) (by omega) (Or.inr (by omega))
        have e : mPut (18 + n.rd 1) 1 (NR_.w_told n2 v) = (1, NR_.w_rd (NR_.w_told n2 v) (up1 n2.rd (18 + n.rd 1).toNatClampNeg v)) := put_1
        obtain ⟨n4, hn4⟩ : ∃ z, NR_.w_rd (NR_.w_told n2 v) (up1 n2.rd (18 + n.rd 1).toNatClampNeg v) = z := ⟨_, rfl⟩
        have rn4 : n4.rn (7 + b.dishes.toInt.toNat) = (mGo m).word := by rw [← hn4]; exact rn2
        rw [hn4] at R4 e
        have tw : mIsWord 2 (mGo (mGo (mGo m))) = 0 ↔ ¬ (fAdvance (fAdvance (fAdvance t))).token = 6 := tok_word (k := 2) (ok_tok h3) (by decide)
        by_cases z : (fAdvance (fAdvance (fAdvance t))).token = 6
        · have z2 : ¬ mIsWord 2 (mGo (mGo (mGo m))) = 0 := fun w => tw.mp w z
          have no3 := tok_no (p := t.place) (v := t.value) (m := m) z (by decide)
          have h4 := ok_adv h3 no3.1 no3.2
          rcases num_ok (n := n4) (a := 1) (b := 9) h4 (by decide) with ⟨s1, s2, s3⟩ | ⟨u, s1, s2, s3, s4, s5, h5⟩
          · have ec : fReadDish t b c x = (0, (fTakeNumber 1 9 (fAdvance (fAdvance (fAdvance (fAdvance t))))).2, b, c, x) := by
              unfold fReadDish
              simp only [eq_true q, x1, one0, if_true, if_false, y1, eq_false y2, eq_true z, s1]
            have em : mReadDish m n = (0, (mReadNumber 1 9 (mGo (mGo (mGo (mGo m)))) n4).2.1, (mReadNumber 1 9 (mGo (mGo (mGo (mGo m)))) n4).2.2) := by
              unfold mReadDish
              simp only [f1, x3, one0, if_true, if_false, y5, e, eq_false z2, s2, put_0]
            rw [ec, em]
            exact out_z s3
          · have e6 : mPut (24 + n.rd 1) 1 (NR_.w_told n4 u) = (1, NR_.w_rd (NR_.w_told n4 u) (up1 n4.rd (24 + n.rd 1).toNatClampNeg u)) := put_1
            have R6 : TbR b c x (NR_.w_rd (NR_.w_told n4 u) (up1 n4.rd (24 + n.rd 1).toNatClampNeg u)) := by
              rw [k24]; exact tb_rd (tb_told R4) (by omega) (by omega) (Or.inr (by omega))
            obtain ⟨n6, hn6⟩ : ∃ z, NR_.w_rd (NR_.w_told n4 u) (up1 n4.rd (24 + n.rd 1).toNatClampNeg u) = z := ⟨_, rfl⟩
            have rn6 : n6.rn (7 + b.dishes.toInt.toNat) = (mGo m).word := by rw [← hn6]; exact rn4
            rw [hn6] at R6 e6
            have ec : fReadDish t b c x = fTakeR 59 (fAdvance (fAdvance (fAdvance (fAdvance (fAdvance t))))) (fPutDish (fAdvance t).value b) c x := by
              unfold fReadDish
              simp only [eq_true q, x1, one0, if_true, if_false, y1, eq_false y2, eq_true z, s1, eq_false s2]
            have em : mReadDish m n = (1, mGo (mGo (mGo (mGo (mGo m)))), mInc 1 n6) := by
              unfold mReadDish
              simp only [f1, x3, one0, if_true, if_false, y5, e, eq_false z2, s5, e6]
            rw [ec, em]
            exact out_le (out_e h5 (tb_dish R6 q2 (by rw [rn6]; exact x2))) (by omega)
        · have z2 : mIsWord 2 (mGo (mGo (mGo m))) = 0 := tw.mpr z
          have ec : fReadDish t b c x = fTakeR 59 (fAdvance (fAdvance (fAdvance t))) (fPutDish (fAdvance t).value b) c x := by
            unfold fReadDish
            simp only [eq_true q, x1, one0, if_true, if_false, y1, eq_false y2, eq_false z]
          have em : mReadDish m n = (1, mGo (mGo (mGo m)), mInc 1 n4) := by
            unfold mReadDish
            simp only [f1, x3, one0, if_true, if_false, y5, e, z2]
          rw [ec, em]
          exact out_le (out_e h3 (tb_dish R4 q2 (by rw [rn4]; exact x2))) (by omega)
  · have q2 : b.dishes = 6 := i_ext (by rw [ltI, t6] at q; rw [t6]; omega)
    have f1 : mReadFirst 1 6 m n = mBad 4 m n := by
      unfold mReadFirst
      exact if_pos (by show n.rd 1 = 6; rw [r1]; exact q2)
    have fk := fail_ok (n := n) (k := 4) h (by decide) (fun z => absurd z no.2)
    have ec : fReadDish t b c x = fFailR 4 t b c x := by
      unfold fReadDish
      simp only [eq_false q, if_false]
    have em : mReadDish m n = mBad 4 m n := by
      unfold mReadDish
      simp only [f1, fk.2.1, if_true]
      rfl
    rw [ec, em]
    exact out_f h (by decide) (fun z => absurd z no.2)
end TBL2
