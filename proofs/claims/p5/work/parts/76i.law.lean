section TBL2
variable {b : TB_} {c : CP_} {x : XP_} {n : NR_} {A : Int} {t : TP_} {m : MT_}
theorem line_law (h : Ok2 A t m) (hR : TbR b c x n) (ht : t.token = 3) : LOut (A + 2) (fReadLaw t b c x) (mFin (mReadLaw m n)) := by
  have no := tok_no (p := t.place) (v := t.value) (m := m) ht (by decide)
  have rl : x.lt = n.hl := hR.2.2.2.2.2.2.2.2.2.2.2.1
  by_cases q : x.lt = 0
  · have q2 : n.hl = 0 := by rw [← rl]; exact q
    have h1 := ok_adv h no.1 no.2
    have w5 := tok_word (k := 5) (ok_tok h1) (by decide)
    have w6 := tok_word (k := 6) (ok_tok h1) (by decide)
    have w7 := tok_word (k := 7) (ok_tok h1) (by decide)
    have w5' : mIsWord 5 (mGo m) = 0 ↔ ¬ (fAdvance t).token = 7 := w5
    have w6' : mIsWord 6 (mGo m) = 0 ↔ ¬ (fAdvance t).token = 8 := w6
    have w7' : mIsWord 7 (mGo m) = 0 ↔ ¬ (fAdvance t).token = 9 := w7
    have l5 := mlw_eq (w := 5) (m := mGo m) (by unfold Rg; decide)
    have l6 := mlw_eq (w := 6) (m := mGo m) (by unfold Rg; decide)
    have l7 := mlw_eq (w := 7) (m := mGo m) (by unfold Rg; decide)
    have l8 := mlw_eq (w := 8) (m := mGo m) (by unfold Rg; decide)
    rw [if_neg (by decide)] at l5 l6 l7
    rw [if_pos (by decide)] at l8
    rw [show (5 : Int32) + 1 = 6 from by decide] at l5
    rw [show (6 : Int32) + 1 = 7 from by decide] at l6
    rw [show (7 : Int32) + 1 = 8 from by decide] at l7
    have good : ∀ (k v : Int32), mlw 5 (mGo m) = k → k ≤ 7 → k - 5 = v → ¬ (fAdvance t).token = 102 → ¬ (fAdvance t).token = 103 → LOut (A + 2) (fTakeR 59 (fAdvance (fAdvance t)) (TB_.w_law b v) c (XP_.w_lt x 1)) (mFin (mReadLaw m n)) := fun k v e1 e2 e3 e4 e5 => by
      have h2 := ok_adv h1 e4 e5
      have em : mReadLaw m n = (1, mGo (mGo m), NR_.w_rd (NR_.w_hl n 1) (up1 n.rd 2 v)) := by
        unfold mReadLaw mRl
        simp only [eq_true q2, if_true, e1, eq_true e2, e3]
        rfl
      rw [em]
      exact out_le (out_e h2 (tb_law hR)) (by omega)
    by_cases z1 : (fAdvance t).token = 7
    · have no1 := tok_no (p := t.place) (v := t.value) (m := m) z1 (by decide)
      have : fReadLaw t b c x = fTakeR 59 (fAdvance (fAdvance t)) (TB_.w_law b 0) c (XP_.w_lt x 1) := by unfold fReadLaw; simp only [eq_true q, eq_true z1, if_true]
      rw [this]
      exact good 5 0 (by rw [l5, if_neg (fun w => w5'.mp w z1)]) (by decide) (by decide) no1.1 no1.2
    · by_cases z2 : (fAdvance t).token = 8
      · have no1 := tok_no (p := t.place) (v := t.value) (m := m) z2 (by decide)
        have : fReadLaw t b c x = fTakeR 59 (fAdvance (fAdvance t)) (TB_.w_law b 1) c (XP_.w_lt x 1) := by unfold fReadLaw; simp only [eq_true q, eq_false z1, eq_true z2, if_true, if_false]
        rw [this]
        exact good 6 1 (by rw [l5, if_pos (w5'.mpr z1), l6, if_neg (fun w => w6'.mp w z2)]) (by decide) (by decide) no1.1 no1.2
      · by_cases z3 : (fAdvance t).token = 9
        · have no1 := tok_no (p := t.place) (v := t.value) (m := m) z3 (by decide)
          have : fReadLaw t b c x = fTakeR 59 (fAdvance (fAdvance t)) (TB_.w_law b 2) c (XP_.w_lt x 1) := by unfold fReadLaw; simp only [eq_true q, eq_false z1, eq_false z2, eq_true z3, if_true, if_false]
          rw [this]
          exact good 7 2 (by rw [l5, if_pos (w5'.mpr z1), l6, if_pos (w6'.mpr z2), l7, if_neg (fun w => w7'.mp w z3)]) (by decide) (by decide) no1.1 no1.2
        · have : fReadLaw t b c x = fFailR 1 (fAdvance t) b c (XP_.w_lt x 1) := by unfold fReadLaw; simp only [eq_true q, eq_false z1, eq_false z2, eq_false z3, if_true, if_false]
          rw [this]
          have e8 : mlw 5 (mGo m) = 8 := by rw [l5, if_pos (w5'.mpr z1), l6, if_pos (w6'.mpr z2), l7, if_pos (w7'.mpr z3), l8]
          have em : mReadLaw m n = mBad 1 (mGo m) (NR_.w_hl n 1) := by
            unfold mReadLaw mRl
            simp only [eq_true q2, if_true, e8]
            exact if_neg (by decide)
          rw [em]
          exact out_f h1 (by decide) (fun _ => rfl)
  · have q2 : ¬ n.hl = 0 := by rw [← rl]; exact q
    unfold fReadLaw mReadLaw
    rw [if_neg q, if_neg q2]
    exact out_f h (by decide) (fun z => absurd z no.2)
theorem line_dogs (h : Ok2 A t m) (hR : TbR b c x n) (ht : t.token = 4) : LOut (A + 2) (fReadDogs t b c x) (mFin (mReadDogs m n)) := by
  have no := tok_no (p := t.place) (v := t.value) (m := m) ht (by decide)
  have rl : x.dt = n.hd := hR.2.2.2.2.2.2.2.2.2.2.2.2.1
  by_cases q : x.dt = 0
  · have q2 : n.hd = 0 := by rw [← rl]; exact q
    have h1 := ok_adv h no.1 no.2
    rcases num_ok (n := NR_.w_hd n 1) (a := 0) (b := 9) h1 (by decide) with ⟨y1, y2, y3⟩ | ⟨v, y1, y2, y3, y4, y5, h2⟩
    · have ec : fReadDogs t b c x = (0, (fTakeNumber 0 9 (fAdvance t)).2, TB_.w_dogs b (-1), c, XP_.w_dt x 1) := by
        unfold fReadDogs
        simp only [eq_true q, if_true, y1]
      have em : mReadDogs m n = (0, (mReadNumber 0 9 (mGo m) (NR_.w_hd n 1)).2.1, (mReadNumber 0 9 (mGo m) (NR_.w_hd n 1)).2.2) := by
        unfold mReadDogs
        simp only [eq_true q2, if_true, y2, put_0]
      rw [ec, em]
      exact out_z y3
    · have e : mReadDogs m n = (1, mGo (mGo m), NR_.w_rd (NR_.w_told (NR_.w_hd n 1) v) (up1 n.rd 3 v)) := by
        unfold mReadDogs
        simp only [eq_true q2, if_true, y5, put_1]
        rfl
      have R2 : TbR (TB_.w_dogs b v) c (XP_.w_dt x 1) (NR_.w_rd (NR_.w_told (NR_.w_hd n 1) v) (up1 n.rd 3 v)) := tb_dogs (n := NR_.w_told n v) (tb_told hR)
      have o := out_e h2 R2
      rw [e]
      refine out_le ?_ (show A + 2 ≤ A + 1 + 1 + 1 by omega)
      obtain ⟨Q, hQ⟩ : ∃ Q, fTake 59 (fAdvance (fAdvance t)) = Q := ⟨_, rfl⟩
      have ec : fReadDogs t b c x = if Q.1 = 0 then (0, Q.2, TB_.w_dogs b v, c, XP_.w_dt x 1) else (1, Q.2, TB_.w_dogs b v, c, XP_.w_dt x 1) := by
        unfold fReadDogs
        simp only [eq_true q, if_true, y1, eq_false y2, if_false, hQ]
      have eR : fTakeR 59 (fAdvance (fAdvance t)) (TB_.w_dogs b v) c (XP_.w_dt x 1) = (Q.1, Q.2, TB_.w_dogs b v, c, XP_.w_dt x 1) := by
        unfold fTakeR
        simp only [hQ]
      rw [eR] at o
      obtain ⟨Z, hZ⟩ : ∃ Z, mFin (1, mGo (mGo m), NR_.w_rd (NR_.w_told (NR_.w_hd n 1) v) (up1 n.rd 3 v)) = Z := ⟨_, rfl⟩
      rw [hZ] at o
      rw [ec, hZ]
      by_cases z : Q.1 = 0
      · rw [if_pos z]
        rcases o with ⟨u1, u2, u3⟩ | ⟨u1, u2, u3, u4⟩
        · exact Or.inl ⟨rfl, u2, u3⟩
        · exact absurd z u1
      · rw [if_neg z]
        rcases o with ⟨u1, u2, u3⟩ | ⟨u1, u2, u3, u4⟩
        · exact absurd u1 z
        · exact Or.inr ⟨(by decide : ¬ (1 : Int32) = 0), u2, u3, u4⟩
  · have q2 : ¬ n.hd = 0 := by rw [← rl]; exact q
    unfold fReadDogs mReadDogs
    rw [if_neg q, if_neg q2]
    exact out_f h (by decide) (fun z => absurd z no.2)
end TBL2
