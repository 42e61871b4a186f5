/-! the LINES of a TABLE, the rest -/
theorem out_le {A B : Int} {q : Int32 × RS} {z : Int32 × MN_} (h : LOut B q z) (e : A ≤ B) : LOut A q z := by
  rcases h with h | ⟨u1, u2, u3, u4⟩
  · exact Or.inl h
  · exact Or.inr ⟨u1, u2, ⟨u3.1, u3.2.1, by have := u3.2.2; omega⟩, u4⟩
theorem out_z {A : Int} {t : TP_} {r : TB_ × CP_ × XP_} {m : MT_} {n : NR_} (h : Bad t n) : LOut A (0, t, r) (mFin (0, m, n)) := out_0 rfl rfl h
theorem out_y {A : Int} {q : RS} {z : MN_} (h : Bad q.1 z.2) : LOut A (0, q) (mFin (0, z)) := out_0 rfl rfl h
section TBL2
variable {b : TB_} {c : CP_} {x : XP_} {n : NR_} {A : Int} {t : TP_} {m : MT_}
theorem put_0 {k : Int32} : mPut k 0 n = (0, n) := by unfold mPut; rw [if_pos rfl]
theorem put_1 {k : Int32} : mPut k 1 n = (1, NR_.w_rd n (up1 n.rd k.toNatClampNeg n.told)) := by unfold mPut; rw [if_neg (by decide)]
theorem line_person (h : Ok2 A t m) (hR : TbR b c x n) (ht : t.token = 0) : LOut (A + 2) (fReadPerson t b c x) (mFin (mReadPerson m n)) := by
  have no := tok_no (p := t.place) (v := t.value) (m := m) ht (by decide)
  have r0 : n.rd 0 = b.persons := hR.2.2.2.2.1
  have t7 : (7 : Int32).toInt = 7 := by decide
  have p0 := hR.1
  have p7 := hR.2.1
  by_cases q : b.persons < 7
  · have q2 := ltI.mp q
    rw [t7] at q2
    have f1 : mReadFirst 0 7 m n = (1, mGo m, n) := by
      unfold mReadFirst
      rw [if_neg]
      show ¬ n.rd 0 = 7
      rw [r0, eqI, t7]; omega
    have h1 := ok_adv h no.1 no.2
    have k1 : (n.rd 0).toNatClampNeg = b.persons.toInt.toNat := by rw [r0]; rfl
    have k4 : (4 + n.rd 0).toNatClampNeg = 4 + b.persons.toInt.toNat := by rw [r0]; exact idx (by decide) p0 (by omega) (by decide)
    have k11 : (11 + n.rd 0).toNatClampNeg = 11 + b.persons.toInt.toNat := by rw [r0]; exact idx (by decide) p0 (by omega) (by decide)
    rcases new_ok (k := n.rd 0) h1 hR with ⟨x1, x2, x3⟩ | ⟨x1, x2, x3, h2⟩
    · have ec : fReadPerson t b c x = (0, (fNewName (fAdvance t) b c x).2) := by
        unfold fReadPerson
        simp only [eq_true q, x1, if_true]
      have em : mReadPerson m n = (0, (mReadNew (n.rd 0) (mGo m) n).2) := by
        unfold mReadPerson
        simp only [f1, x2, one0, if_true, if_false]
      rw [ec, em]
      exact out_y x3
    · rw [k1] at x3
      have R2 := tb_rn (k := b.persons.toInt.toNat) (w := (mGo m).word) hR (by omega) (Or.inl (by omega))
      obtain ⟨n2, hn2⟩ : ∃ z, NR_.w_rn n (up1 n.rn b.persons.toInt.toNat (mGo m).word) = z := ⟨_, rfl⟩
      have rn2 : n2.rn b.persons.toInt.toNat = (mGo m).word := by rw [← hn2]; exact up1_s
      rw [hn2] at R2 x3
      rcases num_ok (n := n2) (a := 0) (b := 20) h2 (by decide) with ⟨y1, y2, y3⟩ | ⟨v, y1, y2, y3, y4, y5, h3⟩
      · have ec : fReadPerson t b c x = (0, (fTakeNumber 0 20 (fAdvance (fAdvance t))).2, b, c, x) := by
          unfold fReadPerson
          simp only [eq_true q, x1, one0, if_true, if_false, y1]
        have em : mReadPerson m n = (0, (mReadNumber 0 20 (mGo (mGo m)) n2).2.1, (mReadNumber 0 20 (mGo (mGo m)) n2).2.2) := by
          unfold mReadPerson
          simp only [f1, x3, one0, if_true, if_false, y2, put_0]
        rw [ec, em]
        exact out_z y3
      · have R4 : TbR b c x (NR_.w_rd (NR_.w_told n2 v) (up1 n2.rd (4 + n.rd 0).toNatClampNeg v)) := by
          rw [k4]; exact tb_rd (tb_told R2) (by omega) (by omega) (Or.inl (by omega))
        have e : mPut (4 + n.rd 0) 1 (NR_.w_told n2 v) = (1, NR_.w_rd (NR_.w_told n2 v) (up1 n2.rd (4 + n.rd 0).toNatClampNeg v)) := put_1
        obtain ⟨n4, hn4⟩ : ∃ z, NR_.w_rd (NR_.w_told n2 v) (up1 n2.rd (4 + n.rd 0).toNatClampNeg v) = z := ⟨_, rfl⟩
        have rn4 : n4.rn b.persons.toInt.toNat = (mGo m).word := by rw [← hn4]; exact rn2
        rw [hn4] at R4 e
        have R5 : TbR b c x (NR_.w_rd n4 (up1 n4.rd (11 + n.rd 0).toNatClampNeg (-1))) := by
          rw [k11]; exact tb_rd R4 (by omega) (by omega) (Or.inr (by omega))
        obtain ⟨n5, hn5⟩ : ∃ z, NR_.w_rd n4 (up1 n4.rd (11 + n.rd 0).toNatClampNeg (-1)) = z := ⟨_, rfl⟩
        have rn5 : n5.rn b.persons.toInt.toNat = (mGo m).word := by rw [← hn5]; exact rn4
        have rd5 : n5.rd (11 + b.persons.toInt.toNat) = -1 := by rw [← hn5, k11]; exact up1_s
        rw [hn5] at R5
        have tw : mIsWord 22 (mGo (mGo (mGo m))) = 0 ↔ ¬ (fAdvance (fAdvance (fAdvance t))).token = 5 := tok_word (k := 22) (ok_tok h3) (by decide)
        by_cases z : (fAdvance (fAdvance (fAdvance t))).token = 5
        · have z2 : ¬ mIsWord 22 (mGo (mGo (mGo m))) = 0 := fun w => tw.mp w z
          have no3 := tok_no (p := t.place) (v := t.value) (m := m) z (by decide)
          have h4 := ok_adv h3 no3.1 no3.2
          have ho := one_ok (n := n5) (k := 0) (cnt := n.rd 0) (f := fPersonNamed (fAdvance (fAdvance (fAdvance (fAdvance t)))).value b) h4 (fun w => by
            have tk := ok_tok h4
            rw [w] at tk
            rw [r0]; exact (find_p R5 (tok_wd tk)).1)
          rcases ho with ⟨w1, w2, w3, w4⟩ | ⟨w1, w2, w3, w4, h5⟩
          · have e1 : mReadOne 0 (n.rd 0) (mGo (mGo (mGo (mGo m)))) n5 = (0, (mIsOne 0 (n.rd 0) (mGo (mGo (mGo (mGo m)))) n5).2) := by unfold mReadOne; simp only [w2, if_true]
            have ec : fReadPerson t b c x = (0, (fTakeName (fPersonNamed (fAdvance (fAdvance (fAdvance (fAdvance t)))).value b) (fAdvance (fAdvance (fAdvance (fAdvance t))))).2, b, c, x) := by
              unfold fReadPerson
              simp only [eq_true q, x1, one0, if_true, if_false, y1, eq_false y2, eq_true z, w4]
            have em : mReadPerson m n = (0, (mIsOne 0 (n.rd 0) (mGo (mGo (mGo (mGo m)))) n5).2.1, (mIsOne 0 (n.rd 0) (mGo (mGo (mGo (mGo m)))) n5).2.2) := by
              unfold mReadPerson mReadPerson2
              simp only [f1, x3, one0, if_true, if_false, y5, e, eq_false z2, hn5, e1, put_0]
            rw [ec, em]
            exact out_z w3
          · obtain ⟨f, hf⟩ : ∃ f, fPersonNamed (fAdvance (fAdvance (fAdvance (fAdvance t)))).value b = f := ⟨_, rfl⟩
            rw [hf] at w2 w3 w4
            have e1 : mReadOne 0 (n.rd 0) (mGo (mGo (mGo (mGo m)))) n5 = (1, mGo (mGo (mGo (mGo (mGo m)))), NR_.w_told n5 f) := by unfold mReadOne; simp only [w3, one0, if_false]
            have e2 : mPut (11 + n.rd 0) 1 (NR_.w_told n5 f) = (1, NR_.w_rd (NR_.w_told n5 f) (up1 n5.rd (11 + n.rd 0).toNatClampNeg f)) := put_1
            obtain ⟨n8, hn8⟩ : ∃ z, NR_.w_rd (NR_.w_told n5 f) (up1 n5.rd (11 + n.rd 0).toNatClampNeg f) = z := ⟨_, rfl⟩
            have R8 : TbR b c x n8 := by
              rw [← hn8, k11]; exact tb_rd (tb_told R5) (by omega) (by omega) (Or.inr (by omega))
            have rn8 : n8.rn b.persons.toInt.toNat = (mGo m).word := by rw [← hn8]; exact rn5
            have rd8 : n8.rd (11 + b.persons.toInt.toNat) = f := by rw [← hn8, k11]; exact up1_s
            rw [hn8] at e2
            have ec : fReadPerson t b c x = fTakeR 59 (fAdvance (fAdvance (fAdvance (fAdvance (fAdvance t))))) (fPutPerson (fAdvance t).value f b) c x := by
              unfold fReadPerson
              simp only [eq_true q, x1, one0, if_true, if_false, y1, eq_false y2, eq_true z, hf, w4, eq_false w2]
            have em : mReadPerson m n = (1, mGo (mGo (mGo (mGo (mGo m)))), mInc 0 n8) := by
              unfold mReadPerson mReadPerson2
              simp only [f1, x3, one0, if_true, if_false, y5, e, eq_false z2, hn5, e1, e2]
            rw [ec, em]
            exact out_le (out_e h5 (tb_person R8 q2 (by rw [rn8]; exact x2) rd8)) (by omega)
        · have z2 : mIsWord 22 (mGo (mGo (mGo m))) = 0 := tw.mpr z
          have ec : fReadPerson t b c x = fTakeR 59 (fAdvance (fAdvance (fAdvance t))) (fPutPerson (fAdvance t).value (-1) b) c x := by
            unfold fReadPerson
            simp only [eq_true q, x1, one0, if_true, if_false, y1, eq_false y2, eq_false z]
          have em : mReadPerson m n = (1, mGo (mGo (mGo m)), mInc 0 n5) := by
            unfold mReadPerson mReadPerson2
            simp only [f1, x3, one0, if_true, if_false, y5, e, z2, hn5]
          rw [ec, em]
          exact out_le (out_e h3 (tb_person R5 q2 (by rw [rn5]; exact x2) rd5)) (by omega)
  · have q2 : b.persons = 7 := i_ext (by rw [ltI, t7] at q; rw [t7]; omega)
    have f1 : mReadFirst 0 7 m n = mBad 4 m n := by
      unfold mReadFirst
      exact if_pos (by show n.rd 0 = 7; rw [r0]; exact q2)
    have fk := fail_ok (n := n) (k := 4) h (by decide) (fun z => absurd z no.2)
    have ec : fReadPerson t b c x = fFailR 4 t b c x := by
      unfold fReadPerson
      simp only [eq_false q, if_false]
    have em : mReadPerson m n = mBad 4 m n := by
      unfold mReadPerson
      simp only [f1, fk.2.1, if_true]
      rfl
    rw [ec, em]
    exact out_f h (by decide) (fun z => absurd z no.2)
end TBL2
