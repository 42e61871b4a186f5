/-! a BOOK, read by both -/
theorem mbw_st {c p : Int32} {v : Int64} {m : MT_} (h : Tok c p v m) (w : Int32) (k : Nat) (hw : w = Int32.ofNat k) (hk : k < 28) (c1 w1 : Int32) (hc : Int32.ofNat (mc_ k) = c1) (hw1 : w + 1 = w1) (hl : ¬ 14 < w) (hr : Rg 0 15 w) : mbw w m = if c = c1 then w else mbw w1 m := by
  have t := tok_word h hk
  rw [hc, ← hw] at t
  rw [mbw_eq hr, if_neg hl, hw1]
  by_cases q : c = c1
  · rw [if_pos q, if_neg (fun z => t.mp z q)]
  · rw [if_neg q, if_pos (t.mpr q)]
theorem mbw_15 {m : MT_} : mbw 15 m = 15 := by rw [mbw_eq ⟨by decide, by decide⟩, if_pos (by decide)]
theorem mbw_v {c p : Int32} {v : Int64} {m : MT_} (h : Tok c p v m) : mbw 9 m = if c = 10 then 9 else if c = 11 then 10 else if c = 12 then 11 else if c = 13 then 12 else if c = 14 then 13 else if c = 15 then 14 else 15 := by
  rw [mbw_st h 9 9 rfl (by decide) 10 10 (by decide) (by decide) (by decide) ⟨by decide, by decide⟩, mbw_st h 10 10 rfl (by decide) 11 11 (by decide) (by decide) (by decide) ⟨by decide, by decide⟩,
    mbw_st h 11 11 rfl (by decide) 12 12 (by decide) (by decide) (by decide) ⟨by decide, by decide⟩, mbw_st h 12 12 rfl (by decide) 13 13 (by decide) (by decide) (by decide) ⟨by decide, by decide⟩,
    mbw_st h 13 13 rfl (by decide) 14 14 (by decide) (by decide) (by decide) ⟨by decide, by decide⟩, mbw_st h 14 14 rfl (by decide) 15 15 (by decide) (by decide) (by decide) ⟨by decide, by decide⟩, mbw_15]
/-- the end of a LINE -/
theorem e_ok {A : Int} {t : TP_} {m : MT_} {n : NR_} (h : Ok2 A t m) : ((fTake 59 t).1 = 0 ∧ (mReadEnd m n).1 = 0 ∧ Bad (fTake 59 t).2 (mReadEnd m n).2.2) ∨ (fTake 59 t = (1, fAdvance t) ∧ mReadEnd m n = (1, mGo m, n) ∧ Ok2 (A + 1) (fAdvance t) (mGo m)) := by
  have ts := tok_sign (s := 59) (ok_tok h) (by decide)
  by_cases q : t.token = 59
  · have no := tok_no (p := t.place) (v := t.value) (m := m) q (by decide)
    refine Or.inr ⟨?_, ?_, ok_adv h no.1 no.2⟩
    · unfold fTake; rw [if_pos q]
    · unfold mReadEnd; rw [if_neg (fun z => ts.mp z q)]
  · have fk := fail_ok (n := n) (k := 1) h (by decide) (fun _ => rfl)
    have e1 : fTake 59 t = fFail 1 t := by unfold fTake; rw [if_neg q]
    have e2 : mReadEnd m n = mBad 1 m n := by unfold mReadEnd; rw [if_pos (ts.mpr q)]
    rw [e1, e2]; exact Or.inl ⟨fk.1, fk.2.1, fk.2.2⟩
/-- the outcome of a piece of a LINE -/
def AOut (n : NR_) (R : Int32 × TP_) (Z : Int32 × MN_) : Prop := (R.1 = 0 ∧ Z.1 = 0 ∧ Bad R.2 Z.2.2) ∨ (R.1 = 1 ∧ Z.1 = 1 ∧ Ok2 0 R.2 Z.2.1 ∧ Z.2.2.mfault = n.mfault)
theorem a_fail {A : Int} {t : TP_} {m : MT_} {n n2 : NR_} {k : Int32} (h : Ok2 A t m) (hk : ¬ k = 0) (h1 : t.token = 103 → k = 1) : AOut n2 (fFail k t) (mBad k m n) := by
  have fk := fail_ok (n := n) h hk h1
  exact Or.inl ⟨fk.1, fk.2.1, fk.2.2⟩
theorem a_num {t : TP_} {m : MT_} {n : NR_} {k : Int32} (h : Ok2 0 t m) : AOut n (if (fTakeNumber 1 k t).1 = -1 then (0, (fTakeNumber 1 k t).2) else (1, (fTakeNumber 1 k t).2)) (mNum (mReadNumber 1 k m n)) := by
  unfold mNum
  rcases num_ok (n := n) (a := 1) (b := k) h (by decide) with ⟨a1, a2, a3⟩ | ⟨w, a1, a2, a3, a4, a5, a6⟩
  · rw [if_pos a1, if_pos a2]; exact Or.inl ⟨rfl, rfl, a3⟩
  · rw [a1, a5, if_neg a2, if_neg (by decide : ¬ (1 : Int32) = 0)]
    exact Or.inr ⟨rfl, rfl, ok_le a6 (by decide), rfl⟩
theorem a_dish {b : TB_} {v : NV_} {z : NW_} {t : TP_} {m : MT_} {n : NR_} {c cw k : Int32} (hN : Nm2 b v z) (h : Ok2 0 t m) (hk : fMost c = k) (hk0 : ¬ k = 0) (hm : ∀ m2 : MT_, (if cw - 9 = 0 then mNum (mReadNumber 1 20 m2 n) else mNum (mReadNumber 1 40 m2 n)) = mNum (mReadNumber 1 k m2 n)) : AOut n (fAct3 c b t) (mDo3 cw v z m n) := by
  have tk := ok_tok h
  have hf : t.token = 100 → fDishNamed t.value b = mfnd v.nv 7 (z.nw 1) m.word 0 := fun w => nm_d hN (by rw [w] at tk; exact tok_wd tk)
  unfold fAct3 mDo3
  by_cases q : t.token = 100
  · have nn : ¬ mIsName m = 0 := fun z => (tok_name tk).mp z q
    have no := tok_no (p := t.place) (v := t.value) (m := m) q (by decide)
    rw [if_neg nn, ← hf q]
    by_cases y : fDishNamed t.value b = -1
    · have e : fTakeName (fDishNamed t.value b) t = (-1, (fFail 3 t).2) := by unfold fTakeName; rw [if_pos q, if_pos y]
      have fk := fail_ok (n := n) (k := 3) h (by decide) (fun w => absurd w no.2)
      rw [e, if_pos rfl, if_pos y]
      exact Or.inl ⟨rfl, fk.2.1, fk.2.2⟩
    · have e : fTakeName (fDishNamed t.value b) t = (fDishNamed t.value b, fAdvance t) := by unfold fTakeName; rw [if_pos q, if_neg y]
      rw [e, if_neg y, if_neg y, hm]
      unfold fAct4
      rw [hk, if_neg hk0]
      exact a_num (ok_le (ok_adv h no.1 no.2) (by decide))
  · have nn : mIsName m = 0 := (tok_name tk).mpr q
    have e : fTakeName (fDishNamed t.value b) t = (-1, (fFail 1 t).2) := by unfold fTakeName; rw [if_neg q]
    have fk := fail_ok (n := n) (k := 1) h (by decide) (fun _ => rfl)
    rw [e, if_pos rfl, if_pos nn]
    exact Or.inl ⟨rfl, fk.2.1, fk.2.2⟩
/-- what one does -/
theorem a_does {b : TB_} {v : NV_} {z : NW_} {t : TP_} {m : MT_} {n : NR_} (hN : Nm2 b v z) (h : Ok2 0 t m) : AOut n (if t.token < 10 then fFail 1 t else if 15 < t.token then fFail 1 t else fAct2 b t) (mDoes v z m n) := by
  have tk := ok_tok h
  have e10 : (10 : Int32).toInt = 10 := by decide
  have e15 : (15 : Int32).toInt = 15 := by decide
  unfold mDoes
  by_cases r : t.token < 10 ∨ 15 < t.token
  · have nv : ∀ c : Int32, 10 ≤ c.toInt → c.toInt ≤ 15 → ¬ t.token = c := fun c h1 h2 e => by
      rcases r with r | r
      · have := ltI.mp r; rw [e] at this; omega
      · have := ltI.mp r; rw [e] at this; omega
    have ev : mbw 9 m = 15 := by
      rw [mbw_v tk, if_neg (nv 10 (by decide) (by decide)), if_neg (nv 11 (by decide) (by decide)), if_neg (nv 12 (by decide) (by decide)), if_neg (nv 13 (by decide) (by decide)), if_neg (nv 14 (by decide) (by decide)), if_neg (nv 15 (by decide) (by decide))]
    have e1 : (if t.token < 10 then fFail 1 t else if 15 < t.token then fFail 1 t else fAct2 b t) = fFail 1 t := by
      by_cases q : t.token < 10
      · rw [if_pos q]
      · rw [if_neg q, if_pos (r.resolve_left q)]
    rw [e1, ev]
    unfold mDo2
    rw [if_neg (by decide)]
    exact a_fail h (by decide) (fun _ => rfl)
  · have r1 : ¬ t.token < 10 := fun w => r (Or.inl w)
    have r2 : ¬ 15 < t.token := fun w => r (Or.inr w)
    rw [if_neg r1, if_neg r2]
    have l1 : ¬ t.token.toInt < 10 := fun w => r1 (ltI.mpr (by rw [e10]; exact w))
    have l2 : ¬ 15 < t.token.toInt := fun w => r2 (ltI.mpr (by rw [e15]; exact w))
    have no : ¬ t.token = 102 ∧ ¬ t.token = 103 := ⟨fun w => by rw [w, k102] at l2; omega, fun w => by rw [w, k103] at l2; omega⟩
    have O1 : Ok2 0 (fAdvance t) (mGo m) := ok_le (ok_adv h no.1 no.2) (by decide)
    have pl : ∀ c w : Int32, t.token = c → mbw 9 m = w → ¬ c = 10 → ¬ c = 11 → fMost c = 0 → w ≤ 14 → ¬ w - 9 ≤ 1 → AOut n (fAct2 b t) (mDo2 (mbw 9 m) v z m n) := fun c w e1 e2 c1 c2 c3 c4 c5 => by
      rw [e2]
      unfold fAct2 fAct4 mDo2
      rw [e1, if_neg c1, if_neg c2, if_pos c3, if_pos c4, if_neg c5]
      exact Or.inr ⟨rfl, rfl, O1, rfl⟩
    rcases (show t.token.toInt = 10 ∨ t.token.toInt = 11 ∨ t.token.toInt = 12 ∨ t.token.toInt = 13 ∨ t.token.toInt = 14 ∨ t.token.toInt = 15 by omega) with q | q | q | q | q | q
    · have e : t.token = 10 := i_ext (by rw [q]; decide)
      rw [show mbw 9 m = 9 from by rw [mbw_v tk, e]; decide]
      unfold fAct2 mDo2
      rw [e, if_pos rfl, if_pos (by decide), if_pos (by decide)]
      exact a_dish (k := 20) hN O1 (by decide) (by decide) (fun m2 => if_pos (by decide))
    · have e : t.token = 11 := i_ext (by rw [q]; decide)
      rw [show mbw 9 m = 10 from by rw [mbw_v tk, e]; decide]
      unfold fAct2 mDo2
      rw [e, if_neg (by decide), if_pos rfl, if_pos (by decide), if_pos (by decide)]
      exact a_dish (k := 40) hN O1 (by decide) (by decide) (fun m2 => if_neg (by decide))
    · have e : t.token = 12 := i_ext (by rw [q]; decide)
      exact pl 12 11 e (by rw [mbw_v tk, e]; decide) (by decide) (by decide) (by decide) (by decide) (by decide)
    · have e : t.token = 13 := i_ext (by rw [q]; decide)
      exact pl 13 12 e (by rw [mbw_v tk, e]; decide) (by decide) (by decide) (by decide) (by decide) (by decide)
    · have e : t.token = 14 := i_ext (by rw [q]; decide)
      exact pl 14 13 e (by rw [mbw_v tk, e]; decide) (by decide) (by decide) (by decide) (by decide) (by decide)
    · have e : t.token = 15 := i_ext (by rw [q]; decide)
      exact pl 15 14 e (by rw [mbw_v tk, e]; decide) (by decide) (by decide) (by decide) (by decide) (by decide)
/-- the outcome of a LINE of a BOOK -/
def BOut (k : KP_) (n : NR_) (R : Int32 × TK_) (Z : Int32 × MN_) : Prop := (R.1 = 0 ∧ Z.1 = 0 ∧ Bad R.2.1 Z.2.2) ∨ (¬ R.1 = 0 ∧ ¬ Z.1 = 0 ∧ Ok2 0 R.2.1 Z.2.1 ∧ Z.2.2.mfault = n.mfault ∧ k.bl.toInt < 40)
theorem b_end {b : TB_} {t : TP_} {k k0 : KP_} {n : NR_} {Z : Int32 × MN_} (h : AOut n (fReadAct b k t) Z) (hk : k0.bl.toInt < 40) : BOut k0 n (fBk2 b t k) (mBk4 Z) ∧ BOut k0 n (fBk2 b t k) (mBk5 Z) := by
  unfold fBk2 mBk4 mBk5
  obtain ⟨A, hA⟩ : ∃ A, fReadAct b k t = A := ⟨_, rfl⟩
  rw [hA] at h ⊢
  rcases h with ⟨a1, a2, a3⟩ | ⟨a1, a2, a3, a4⟩
  · rw [if_pos a1, if_pos a2, if_pos a2]
    exact ⟨Or.inl ⟨rfl, rfl, a3⟩, Or.inl ⟨rfl, rfl, a3⟩⟩
  · have z1 : ¬ A.1 = 0 := by rw [a1]; decide
    have z2 : ¬ Z.1 = 0 := by rw [a2]; decide
    rw [if_neg z1, if_neg z2, if_neg z2]
    rcases e_ok (n := Z.2.2) a3 with ⟨b1, b2, b3⟩ | ⟨b1, b2, b3⟩
    · rw [if_pos b1, if_pos b2]
      exact ⟨Or.inl ⟨rfl, rfl, b3⟩, Or.inl ⟨rfl, b2, b3⟩⟩
    · rw [b1, b2, if_neg (by decide : ¬ (1 : Int32) = 0), if_neg (by decide : ¬ (1 : Int32) = 0)]
      have r : BOut k0 n (1, fAdvance A.2, k) (1, mGo Z.2.1, Z.2.2) := Or.inr ⟨(by decide : ¬ (1 : Int32) = 0), (by decide : ¬ (1 : Int32) = 0), ok_le b3 (by decide), a4, hk⟩
      exact ⟨r, r⟩
theorem b_fail {A : Int} {t : TP_} {m : MT_} {n n2 : NR_} {k k2 : KP_} {i : Int32} (h : Ok2 A t m) (hk : ¬ i = 0) (h1 : t.token = 103 → i = 1) : BOut k n2 (fFailK i t k2) (mBad i m n) := by
  have fk := fail_ok (n := n) h hk h1
  exact Or.inl ⟨fk.1, fk.2.1, fk.2.2⟩
theorem bk_line {b : TB_} {v : NV_} {z : NW_} {t : TP_} {k : KP_} {m : MT_} {n : NR_} {y : YT_} (hN : Nm2 b v z) (h : Ok2 0 t m) (he : k.bl = y.blm) (h0 : 0 ≤ k.bl.toInt) (h40 : k.bl.toInt ≤ 40) : BOut k n (fBkLine b t k) (mBkLine v z y m n) := by
  have tk := ok_tok h
  have tw := tok_word (k := 15) tk (by decide)
  have tw2 : mIsWord 15 m = 0 ↔ ¬ t.token = 16 := tw
  have e40 : (40 : Int32).toInt = 40 := by decide
  unfold fBkLine mBkLine
  by_cases q : t.token = 100
  · have nn : ¬ mIsName m = 0 := fun w => (tok_name tk).mp w q
    have no := tok_no (p := t.place) (v := t.value) (m := m) q (by decide)
    have w0 : mIsWord 15 m = 0 := tw2.mpr (by rw [q]; decide)
    have hp : fPersonNamed t.value b = mfnd v.nv 0 (z.nw 0) m.word 0 := nm_p hN (by rw [q] at tk; exact tok_wd tk)
    rw [if_pos q, if_pos w0, if_neg nn, ← hp]
    by_cases p1 : fPersonNamed t.value b = -1
    · rw [if_pos p1, if_pos p1]
      exact b_fail h (by decide) (fun w => absurd w no.2)
    · rw [if_neg p1, if_neg p1]
      unfold mBk3
      by_cases g : k.bl < 40
      · have g1 := ltI.mp g
        rw [if_pos g, if_neg (show ¬ y.blm = 40 from fun w => by rw [he, w] at g1; omega), if_pos w0]
        refine (b_end (n := n) ?_ (by omega)).1
        unfold fReadAct
        show AOut n (if up1 k.bw k.bl.toNatClampNeg (fPersonNamed t.value b) k.bl.toNatClampNeg = -1 then _ else _) _
        rw [if_neg (show ¬ up1 k.bw k.bl.toNatClampNeg (fPersonNamed t.value b) k.bl.toNatClampNeg = -1 from by rw [up1_s]; exact p1)]
        exact a_does hN (ok_le (ok_adv h no.1 no.2) (by decide))
      · have g1 : ¬ k.bl.toInt < (40 : Int32).toInt := fun w => g (ltI.mpr w)
        rw [if_neg g, if_pos (show y.blm = 40 from by rw [← he]; exact i_ext (by omega))]
        exact b_fail h (by decide) (fun w => absurd w no.2)
  · rw [if_neg q]
    by_cases q2 : t.token = 16
    · have no := tok_no (p := t.place) (v := t.value) (m := m) q2 (by decide)
      have w1 : ¬ mIsWord 15 m = 0 := fun w => tw2.mp w q2
      rw [if_pos q2, if_neg w1]
      unfold mBk3
      by_cases g : k.bl < 40
      · have g1 := ltI.mp g
        rw [if_pos g, if_neg (show ¬ y.blm = 40 from fun w => by rw [he, w] at g1; omega), if_neg w1]
        have an : AOut n (fReadAct b (KP_.w_bw k (up1 k.bw k.bl.toNatClampNeg (-1))) t) (mNum (mReadNumber 1 60 (mGo m) n)) := by
          unfold fReadAct
          show AOut n (if up1 k.bw k.bl.toNatClampNeg (-1) k.bl.toNatClampNeg = -1 then _ else _) _
          rw [if_pos (show up1 k.bw k.bl.toNatClampNeg (-1) k.bl.toNatClampNeg = -1 from up1_s), if_pos q2]
          unfold fAct2 fAct4
          rw [q2, if_neg (by decide), if_neg (by decide), show fMost 16 = 60 from by decide, if_neg (by decide)]
          exact a_num (ok_le (ok_adv h no.1 no.2) (by decide))
        have r := (b_end an (k0 := k) (by omega)).2
        have e5 : ∀ Z : Int32 × MN_, mBk5 (mNum Z) = mBk5 Z := fun Z => by
          unfold mBk5 mNum
          by_cases w : Z.1 = 0
          · rw [if_pos w, if_pos w]; exact if_pos rfl
          · rw [if_neg w, if_neg w]; exact if_neg (by decide : ¬ (1 : Int32) = 0)
        rw [e5] at r
        exact r
      · have g1 : ¬ k.bl.toInt < (40 : Int32).toInt := fun w => g (ltI.mpr w)
        rw [if_neg g, if_pos (show y.blm = 40 from by rw [← he]; exact i_ext (by omega))]
        exact b_fail h (by decide) (fun w => absurd w no.2)
    · rw [if_neg q2, if_pos (tw2.mpr q2), if_pos ((tok_name tk).mpr q)]
      exact b_fail h (by decide) (fun _ => rfl)
theorem bk_all {b : TB_} {v : NV_} {z : NW_} (hN : Nm2 b v z) : ∀ (d : Nat) (t : TP_) (k : KP_) (m : MT_) (n : NR_) (y : YT_), Ok2 0 t m → k.bl = y.blm → 0 ≤ k.bl.toInt → k.bl.toInt + d = 40 → n.mfault = 0 → (fBkl b t k).1.fault = mBkl v z y m n := by
  intro d
  induction d with
  | zero =>
    intro t k m n y hO he h0 hd hn
    have r := bk_line (n := n) hN hO he h0 (by omega)
    rw [fBkl_eq ⟨h0, by omega⟩, mBkl_eq (by rw [← he]; exact ⟨h0, by omega⟩), if_neg (fun w => by have := ltI.mp w; rw [show (40 : Int32).toInt = 40 from by decide] at this; omega)]
    have ts := tok_stop (ok_tok hO)
    by_cases c : t.token = 102
    · rw [if_pos c, if_pos (ts.mpr c), hn]; exact hO.2.1
    · rw [if_neg c, if_neg (fun w => c (ts.mp w))]
      rcases r with ⟨a1, a2, a3⟩ | ⟨a1, a2, a3, a4, a5⟩
      · rw [if_pos a1, if_pos a2]; exact a3.2.1
      · omega
  | succ d ih =>
    intro t k m n y hO he h0 hd hn
    have r := bk_line (n := n) hN hO he h0 (by omega)
    rw [fBkl_eq ⟨h0, by omega⟩, mBkl_eq (by rw [← he]; exact ⟨h0, by omega⟩), if_neg (fun w => by have := ltI.mp w; rw [show (40 : Int32).toInt = 40 from by decide] at this; omega)]
    have ts := tok_stop (ok_tok hO)
    by_cases c : t.token = 102
    · rw [if_pos c, if_pos (ts.mpr c), hn]; exact hO.2.1
    · rw [if_neg c, if_neg (fun w => c (ts.mp w))]
      rcases r with ⟨a1, a2, a3⟩ | ⟨a1, a2, a3, a4, a5⟩
      · rw [if_pos a1, if_pos a2]; exact a3.2.1
      · rw [if_neg a1, if_neg a2]
        have e1 := add1 (x := k.bl) (by omega)
        have eb : (KP_.w_bl (fBkLine b t k).2.2 ((fBkLine b t k).2.2.bl + 1)).bl = k.bl + 1 := by
          show (fBkLine b t k).2.2.bl + 1 = k.bl + 1
          rw [bkl_bl]
        exact ih _ _ _ _ _ a3 (by rw [eb, he]; rfl) (by rw [eb]; omega) (by rw [eb]; omega) (a4.trans hn)
theorem bookF_eq {a : Int32} {t : TP_} {b : TB_} {k : KP_} {m : MT_} {n : NR_} {y : YT_} {v : NV_} {z : NW_} (hl : t.len = n.taped) (h0 : 0 ≤ n.taped.toInt) (h9 : n.taped.toInt ≤ 940) (hB : ∀ j : Nat, (j : Int) < n.taped.toInt → By_ (t.by_ j) (m.tp j)) (hw : Wk_ t.wd) (hN : Nm2 b v z) (hf : t.fault = n.mfault) : fBookF a b t k = mBookF a v z y m n := by
  have bg := beg (s := t) (m := MT_.w_to (MT_.w_limit (MT_.w_size m n.taped) 400) 0) (most := 400) h9 h0 (by decide) (by decide) hl rfl rfl hB hw
  have O0 : Ok2 0 (fBegin 400 t) (mBegin 400 m n).1 := ⟨bg.1, bg.2, by
    obtain ⟨N, k, a1, a2, a3, a4, a5⟩ := bg.1
    rw [a4]; omega⟩
  have r := bk_all hN 40 _ (KP_.w_bl k 0) _ (mBegin 400 m n).2 (YT_.w_blm y 0) O0 rfl (show 0 ≤ (0 : Int32).toInt from by decide) (show (0 : Int32).toInt + ((40 : Nat) : Int) = 40 from by decide) rfl
  unfold fBookF mBookF fBook isIn_
  by_cases c0 : a = 0
  · rw [if_pos c0, c0, if_neg (by decide)]; exact r
  · rw [if_neg c0]
    by_cases c1 : a = 1
    · rw [if_pos c1, c1, if_neg (by decide)]; exact r
    · have e : (if a < 0 then (0 : Int32) else if 1 < a then 0 else 1) = 0 := by
        by_cases l0 : a < 0
        · rw [if_pos l0]
        · rw [if_neg l0]
          by_cases l1 : 1 < a
          · rw [if_pos l1]
          · rw [ltI, k0] at l0
            rw [ltI, k1] at l1
            rcases (show a.toInt = 0 ∨ a.toInt = 1 by omega) with q | q
            · exact absurd (i_ext (by rw [q]; decide)) c0
            · exact absurd (i_ext (by rw [q]; decide)) c1
      rw [if_neg c1, if_pos e]; exact hf
