/-! a ONE, read by both -/
theorem bo_l {c : Int32} (h : ¬ fBegOne c = 0) : c = 40 ∨ c = 5 ∨ c = 19 ∨ c = 20 ∨ c = 21 ∨ c = 22 ∨ c = 23 ∨ c = 24 ∨ c = 25 ∨ c = 26 ∨ c = 27 := by
  unfold fBegOne at h
  by_cases h1 : c = 40
  · exact Or.inl h1
  by_cases h2 : c = 5
  · exact Or.inr (Or.inl h2)
  rw [if_neg h1, if_neg h2] at h
  by_cases h3 : c < 19
  · rw [if_pos h3] at h; exact absurd rfl h
  rw [if_neg h3] at h
  by_cases h4 : 27 < c
  · rw [if_pos h4] at h; exact absurd rfl h
  rw [ltI, show (19 : Int32).toInt = 19 from by decide] at h3
  rw [ltI, show (27 : Int32).toInt = 27 from by decide] at h4
  have e19 : (19 : Int32).toInt = 19 := by decide
  have e20 : (20 : Int32).toInt = 20 := by decide
  have e21 : (21 : Int32).toInt = 21 := by decide
  have e22 : (22 : Int32).toInt = 22 := by decide
  have e23 : (23 : Int32).toInt = 23 := by decide
  have e24 : (24 : Int32).toInt = 24 := by decide
  have e25 : (25 : Int32).toInt = 25 := by decide
  have e26 : (26 : Int32).toInt = 26 := by decide
  have e27 : (27 : Int32).toInt = 27 := by decide
  simp only [eqI, e19, e20, e21, e22, e23, e24, e25, e26, e27]
  omega
theorem bg_0 {c p : Int32} {v : Int64} {m : MT_} (h : Tok c p v m) (y : fBegOne c = 0) : mIsSign 40 m = 0 ∧ mww 18 m = 28 := by
  refine ⟨(tok_sign (s := 40) h (by decide)).mpr (fun e => absurd y (by rw [e]; decide)), ?_⟩
  rw [mww_v h, if_neg (fun e => absurd y (by rw [e]; decide)), if_neg (fun e => absurd y (by rw [e]; decide)), if_neg (fun e => absurd y (by rw [e]; decide)), if_neg (fun e => absurd y (by rw [e]; decide)), if_neg (fun e => absurd y (by rw [e]; decide)),
    if_neg (fun e => absurd y (by rw [e]; decide)), if_neg (fun e => absurd y (by rw [e]; decide)), if_neg (fun e => absurd y (by rw [e]; decide)), if_neg (fun e => absurd y (by rw [e]; decide)), if_neg (fun e => absurd y (by rw [e]; decide))]
theorem bg_1 {c p : Int32} {v : Int64} {m : MT_} (h : Tok c p v m) (y : ¬ fBegOne c = 0) : ¬ c = 102 ∧ ¬ c = 103 ∧ (mIsSign 40 m = 0 → mww 18 m ≤ 27) := by
  refine ⟨fun e => y (by rw [e]; decide), fun e => y (by rw [e]; decide), fun o => ?_⟩
  have n40 := (tok_sign (s := 40) h (by decide)).mp o
  rw [mww_v h]
  rcases bo_l y with e | e | e | e | e | e | e | e | e | e | e
  · exact absurd e n40
  all_goals (rw [e]; decide)
section ONE
variable {t : TP_} {m : MT_} {n n2 : NR_} {s s0 : SP_} {q : QT_} {b : TB_} {v : NV_} {z : NW_}
theorem cmp2_ok (hO : Ok2 0 t m) (hc : ¬ t.token = 102 ∧ ¬ t.token = 103) (he : s.so = q.om) (h1 : s0.so.toInt < s.so.toInt) (h20 : s.so.toInt ≤ 20) (hl0 : 0 ≤ s.sl.toInt) (hl : s.sl.toInt + 2 ≤ s0.sl.toInt + 2 * (s.so.toInt - s0.so.toInt)) (h40 : s.sl.toInt < 40) (hf : n.mfault = n2.mfault) : SOut s0 n2 (fCmp t s) (mCmp2 m n q) := by
  have O2 := ok_adv hO hc.1 hc.2
  rcases num_ok (n := n) (a := 0) (b := 999) O2 (by decide) with ⟨a1, a2, a3⟩ | ⟨w, a1, a2, a3, a4, a5, a6⟩
  · unfold fCmp mCmp2 mOf2
    rw [if_pos a1, if_pos a2]
    exact Or.inl ⟨rfl, rfl, a3⟩
  · obtain ⟨T2, hT2⟩ : ∃ T2, fAdvance (fAdvance t) = T2 := ⟨_, rfl⟩
    obtain ⟨M2, hM2⟩ : ∃ M2, mGo (mGo m) = M2 := ⟨_, rfl⟩
    obtain ⟨N2, hN2⟩ : ∃ N2, NR_.w_told n w = N2 := ⟨_, rfl⟩
    have hf2 : N2.mfault = n2.mfault := by rw [← hN2]; exact hf
    rw [hT2] at a1 a6
    rw [hM2] at a5 a6
    rw [hN2] at a5
    have e1 : fCmp t s = fAnd2 T2 s := by unfold fCmp; rw [a1]; exact if_neg a2
    have e2 : mCmp2 m n q = (1, M2, N2, q) := by unfold mCmp2 mOf2; rw [a5]; exact if_neg (by decide : ¬ (1 : Int32) = 0)
    have O3 : Ok2 0 T2 M2 := ok_le a6 (by decide)
    have r := s_add (n := N2) (n2 := n2) (q := q) (s := s) (s0 := s0) O3 he h1 h20 hl0 hl h40 hf2
    rw [e1, e2]
    exact r.1
theorem cmp_ok (hO : Ok2 0 t m) (he : s.so = q.om) (h1 : s0.so.toInt < s.so.toInt) (h20 : s.so.toInt ≤ 20) (hl0 : 0 ≤ s.sl.toInt) (hl : s.sl.toInt + 2 ≤ s0.sl.toInt + 2 * (s.so.toInt - s0.so.toInt)) (h40 : s.sl.toInt < 40) (hf : n.mfault = n2.mfault) :
    SOut s0 n2 (if t.token = 60 then fCmp t s else if t.token = 61 then fCmp t s else if t.token = 62 then fCmp t s else fFailS 1 t s) (mCmp m n q) := by
  have tk := ok_tok hO
  have t0 := tok_sign (s := 60) tk (by decide)
  have t1 := tok_sign (s := 61) tk (by decide)
  have t2 := tok_sign (s := 62) tk (by decide)
  have go := fun hc => cmp2_ok (n2 := n2) hO hc he h1 h20 hl0 hl h40 hf
  unfold mCmp
  by_cases c0 : t.token = 60
  · rw [if_pos c0, if_neg (fun w => t0.mp w c0)]
    exact go (tok_no (p := t.place) (v := t.value) (m := m) c0 (by decide))
  · rw [if_neg c0, if_pos (t0.mpr c0)]
    by_cases c1 : t.token = 61
    · rw [if_pos c1, if_neg (fun w => t1.mp w c1)]
      exact go (tok_no (p := t.place) (v := t.value) (m := m) c1 (by decide))
    · rw [if_neg c1, if_pos (t1.mpr c1)]
      by_cases c2 : t.token = 62
      · rw [if_pos c2, if_neg (fun w => t2.mp w c2)]
        exact go (tok_no (p := t.place) (v := t.value) (m := m) c2 (by decide))
      · rw [if_neg c2, if_pos (t2.mpr c2)]
        exact s_fail hO (by decide) (fun _ => rfl)
/-- a name behind 'of' or 'has' -/
theorem nm_sen {f k cnt : Int32} (hO : Ok2 0 t m) (hn : t.token = 100 → f = mfnd v.nv k cnt m.word 0) (he : s.so = q.om) (h1 : s0.so.toInt < s.so.toInt) (h20 : s.so.toInt ≤ 20) (hl0 : 0 ≤ s.sl.toInt) (hl : s.sl.toInt + 2 ≤ s0.sl.toInt + 2 * (s.so.toInt - s0.so.toInt)) (h40 : s.sl.toInt < 40) (hf : n.mfault = n2.mfault) :
    SOut s0 n2 (if (fTakeName f t).1 = -1 then (0, (fTakeName f t).2, s) else fAnd2 (fTakeName f t).2 s) (mOf2 (mNamed k cnt v m n) q) := by
  unfold mOf2
  rcases nam_ok (n := n) hO hn with ⟨a1, a2, a3⟩ | ⟨a1, a2, a3, d, a4, a5, a6⟩
  · rw [if_pos a1, if_pos a2]
    exact Or.inl ⟨rfl, rfl, a3⟩
  · rw [if_neg a1, a2, a4, if_neg (by decide : ¬ (1 : Int32) = 0)]
    exact (s_add (n := NR_.w_told n d) (q := q) (ok_le a6 (by decide)) he h1 h20 hl0 hl h40 hf).1
end ONE
set_option maxHeartbeats 8000000 in
theorem one_sen {b : TB_} {v : NV_} {z : NW_} (hN : Nm2 b v z) : ∀ k : Nat, SP2 (fOne k b) (mSaid k v z)
  | 0 => fun t m n s q hp => by
    obtain ⟨hO, he, h0, h20, hl0, hl⟩ := hp
    have tk := ok_tok hO
    rw [fOne_z, mSaid_z]
    unfold mSd0
    by_cases y : fBegOne t.token = 0
    · obtain ⟨b1, b2⟩ := bg_0 tk y
      rw [if_pos y, if_pos b1, b2, if_neg (by decide)]
      exact s_fail hO (by decide) (fun _ => rfl)
    · obtain ⟨b1, b2, b3⟩ := bg_1 tk y
      rw [if_neg y]
      by_cases o : mIsSign 40 m = 0
      · rw [if_pos o, if_pos (b3 o)]; exact s_fail hO (by decide) (fun w => absurd w b2)
      · rw [if_neg o]; exact s_fail hO (by decide) (fun w => absurd w b2)
  | k + 1 => fun t m n s q hp => by
    have P1 := one_sen hN k
    have PA : SP2 (fAll k b) (mAndK k v z) := jn_sen (k := 18) (kw := 17) (kn := 17) P1 (by decide) rfl (by decide) (by decide) (fun _ _ => rfl) (fun _ _ _ => rfl)
    have PC : SP2 (fCond k b) (mOrK k v z) := jn_sen (k := 17) (kw := 16) (kn := 16) PA (by decide) rfl (by decide) (by decide) (fun _ _ => rfl) (fun _ _ _ => rfl)
    obtain ⟨hO, he, h0, h20, hl0, hl⟩ := hp
    have tk := ok_tok hO
    rw [fOne_s, mSaid_s]
    by_cases y : fBegOne t.token = 0
    · obtain ⟨b1, b2⟩ := bg_0 tk y
      unfold mSd1
      rw [if_pos y, if_pos b1, b2, if_neg (by decide)]
      exact s_fail hO (by decide) (fun _ => rfl)
    · obtain ⟨b1, b2, b3⟩ := bg_1 tk y
      have e2 : mSd1 (mBrK k v z) (mNtK k v z) v z (mIsSign 40 m) (mww 18 m) m n q = mSd2 (mBrK k v z) (mNtK k v z) v z (mIsSign 40 m) (mww 18 m) m n q := by
        unfold mSd1
        by_cases o : mIsSign 40 m = 0
        · rw [if_pos o, if_pos (b3 o)]
        · rw [if_neg o]
      rw [if_neg y, e2]
      have e20 : (20 : Int32).toInt = 20 := by decide
      unfold mSd2
      by_cases g : 20 ≤ s.so
      · have g1 := leI.mp g
        rw [if_pos g, if_pos (show q.om = 20 from by rw [← he]; exact i_ext (by omega))]
        exact s_fail hO (by decide) (fun w => absurd w b2)
      · have g1 : ¬ (20 : Int32).toInt ≤ s.so.toInt := fun w => g (leI.mpr w)
        rw [if_neg g, if_neg (show ¬ q.om = 20 from fun w => by rw [← he] at w; rw [w] at g1; omega)]
        have e5 := add1 (x := s.so) (by omega)
        obtain ⟨s1, hs1⟩ : ∃ s1, SP_.w_so s (s.so + 1) = s1 := ⟨_, rfl⟩
        obtain ⟨q1, hq1⟩ : ∃ q1, QT_.w_om q (q.om + 1) = q1 := ⟨_, rfl⟩
        have f1 : s1.so.toInt = s.so.toInt + 1 := by rw [← hs1]; exact e5
        have f2 : s1.sl = s.sl := by rw [← hs1]; rfl
        have f3 : s1.so = q1.om := by rw [← hs1, ← hq1]; exact congrArg (fun w => w + 1) he
        rw [hs1, hq1]
        have O1 : Ok2 0 (fAdvance t) (mGo m) := ok_le (ok_adv hO b1 b2) (by decide)
        have PR : SPre (fAdvance t) (mGo m) s1 q1 := ⟨O1, f3, by omega, by omega, by rw [f2]; exact hl0, by rw [f2]; omega⟩
        by_cases c40 : t.token = 40
        · rw [if_pos c40, if_neg (fun w => (tok_sign (s := 40) tk (by decide)).mp w c40)]
          have r := PC _ _ n _ _ PR
          unfold mBrK
          obtain ⟨A, hA⟩ : ∃ A, fCond k b (fAdvance t) s1 = A := ⟨_, rfl⟩
          obtain ⟨Z, hZ⟩ : ∃ Z, mOrK k v z (mGo m) n q1 = Z := ⟨_, rfl⟩
          rw [hA, hZ] at r ⊢
          rcases r with ⟨a1, a2, a3⟩ | ⟨a1, a2, a3, a4, a5, a6, a7, a8, a9⟩
          · rw [if_pos a1, if_pos a2]
            exact Or.inl ⟨rfl, rfl, a3⟩
          · rw [if_neg (by rw [a1]; decide), if_neg a2]
            have t41 := tok_sign (s := 41) (ok_tok a3) (by decide)
            by_cases c41 : A.2.1.token = 41
            · have no := tok_no (p := A.2.1.place) (v := A.2.1.value) (m := Z.2.1) c41 (by decide)
              have ft : fTake 41 A.2.1 = (1, fAdvance A.2.1) := by unfold fTake; rw [if_pos c41]
              rw [ft, if_neg (by decide : ¬ (1 : Int32) = 0), if_neg (fun w => t41.mp w c41)]
              exact Or.inr ⟨rfl, (by decide : ¬ (1 : Int32) = 0), ok_le (ok_adv a3 no.1 no.2) (by decide), a4, by show s.so.toInt < A.2.2.so.toInt; omega, a6, a7, by show A.2.2.sl.toInt + 1 ≤ _; rw [f2] at a8; show A.2.2.sl.toInt + 1 ≤ s.sl.toInt + 2 * (A.2.2.so.toInt - s.so.toInt); omega, a9⟩
            · have ft : fTake 41 A.2.1 = fFail 1 A.2.1 := by unfold fTake; rw [if_neg c41]
              have fk := fail_ok (n := Z.2.2.1) (k := 1) a3 (by decide) (fun _ => rfl)
              rw [ft, if_pos fk.1, if_pos (t41.mpr c41)]
              exact Or.inl ⟨rfl, fk.2.1, fk.2.2⟩
        · rw [if_neg c40, if_pos ((tok_sign (s := 40) tk (by decide)).mpr c40)]
          have B1 : s.so.toInt < s1.so.toInt := by omega
          have B2 : s1.so.toInt ≤ 20 := by omega
          have B3 : 0 ≤ s1.sl.toInt := by rw [f2]; exact hl0
          have B4 : s1.sl.toInt + 2 ≤ s.sl.toInt + 2 * (s1.so.toInt - s.so.toInt) := by rw [f2]; omega
          have B5 : s1.sl.toInt < 40 := by rw [f2]; omega
          have tk1 := ok_tok O1
          by_cases c19 : t.token = 19
          · rw [if_pos c19, show mww 18 m = 18 from by rw [mww_v tk, if_pos c19], if_pos rfl]
            have r := P1 _ _ n _ _ PR
            unfold mNtK
            obtain ⟨A, hA⟩ : ∃ A, fOne k b (fAdvance t) s1 = A := ⟨_, rfl⟩
            obtain ⟨Z, hZ⟩ : ∃ Z, mSaid k v z (mGo m) n q1 = Z := ⟨_, rfl⟩
            rw [hA, hZ] at r ⊢
            rcases r with ⟨a1, a2, a3⟩ | ⟨a1, a2, a3, a4, a5, a6, a7, a8, a9⟩
            · rw [if_pos a1, if_pos a2]
              exact Or.inl ⟨rfl, rfl, a3⟩
            · rw [if_neg (by rw [a1]; decide), if_neg a2]
              rw [f2] at a8
              exact (s_add (n := Z.2.2.1) (m := Z.2.1) (q := Z.2.2.2) a3 a4 (by omega) a6 a7 (by omega) (by omega) a9).1
          · rw [if_neg c19]
            have wd : (fAdvance t).token = 100 → Wd (fAdvance t).value (mGo m).word := fun w => by rw [w] at tk1; exact tok_wd tk1
            have cm := fun (w : Int32) (e : t.token = w) (w1 : ¬ w = 5) (w2 : ¬ w = 23) (w3 : 23 ≤ w) (w4 : mww 18 m = w) (w5 : ¬ w = 18) (w6 : 22 ≤ w) (w7 : 24 ≤ w) => (show SOut s n (fPlain t.token b (fAdvance t) s1) (if mww 18 m = 18 then mNtK k v z (mGo m) n q1 else if 22 ≤ mww 18 m then (if 24 ≤ mww 18 m then mCmp (mGo m) n q1 else mOf (mww 18 m) v z (mGo m) n q1) else (1, mGo m, n, q1)) from by
              rw [w4, if_neg w5, if_pos w6, if_pos w7]
              unfold fPlain
              rw [e, if_neg w1, if_neg w2, if_pos w3]
              exact cmp_ok O1 f3 B1 B2 B3 B4 B5 rfl)
            have pl := fun (w u : Int32) (e : t.token = w) (w1 : ¬ w = 5) (w2 : ¬ w = 23) (w3 : ¬ 23 ≤ w) (w4 : mww 18 m = u) (w5 : ¬ u = 18) (w6 : ¬ 22 ≤ u) => (show SOut s n (fPlain t.token b (fAdvance t) s1) (if mww 18 m = 18 then mNtK k v z (mGo m) n q1 else if 22 ≤ mww 18 m then (if 24 ≤ mww 18 m then mCmp (mGo m) n q1 else mOf (mww 18 m) v z (mGo m) n q1) else (1, mGo m, n, q1)) from by
              rw [w4, if_neg w5, if_neg w6]
              unfold fPlain
              rw [e, if_neg w1, if_neg w2, if_neg w3]
              exact (s_add O1 f3 B1 B2 B3 B4 B5 rfl).2)
            rcases bo_l y with e | e | e | e | e | e | e | e | e | e | e
            · exact absurd e c40
            · rw [show mww 18 m = 22 from by rw [mww_v tk, e]; decide, if_neg (by decide), if_pos (by decide), if_neg (by decide)]
              unfold fPlain mOf
              rw [if_pos e, if_pos rfl]
              exact nm_sen O1 (fun w => nm_p hN (wd w)) f3 B1 B2 B3 B4 B5 rfl
            · exact absurd e c19
            · exact pl 20 19 e (by decide) (by decide) (by decide) (by rw [mww_v tk, e]; decide) (by decide) (by decide)
            · exact pl 21 20 e (by decide) (by decide) (by decide) (by rw [mww_v tk, e]; decide) (by decide) (by decide)
            · exact pl 22 21 e (by decide) (by decide) (by decide) (by rw [mww_v tk, e]; decide) (by decide) (by decide)
            · rw [show mww 18 m = 23 from by rw [mww_v tk, e]; decide, if_neg (by decide), if_pos (by decide), if_neg (by decide)]
              unfold fPlain mOf
              rw [if_neg (show ¬ t.token = 5 from by rw [e]; decide), if_pos e, if_neg (by decide : ¬ (23 : Int32) = 22)]
              exact nm_sen O1 (fun w => nm_d hN (wd w)) f3 B1 B2 B3 B4 B5 rfl
            · exact cm 24 e (by decide) (by decide) (by decide) (by rw [mww_v tk, e]; decide) (by decide) (by decide) (by decide)
            · exact cm 25 e (by decide) (by decide) (by decide) (by rw [mww_v tk, e]; decide) (by decide) (by decide) (by decide)
            · exact cm 26 e (by decide) (by decide) (by decide) (by rw [mww_v tk, e]; decide) (by decide) (by decide) (by decide)
            · exact cm 27 e (by decide) (by decide) (by decide) (by rw [mww_v tk, e]; decide) (by decide) (by decide) (by decide)
/-- what both answer, and the FAULT -/
theorem sen_all {t : TP_} {b : TB_} {s : SP_} {m : MT_} {n : NR_} {q : QT_} {v : NV_} {z : NW_} (hl : t.len = n.taped) (h0 : 0 ≤ n.taped.toInt) (h9 : n.taped.toInt ≤ 940) (hB : ∀ j : Nat, (j : Int) < n.taped.toInt → By_ (t.by_ j) (m.tp j)) (hw : Wk_ t.wd) (hN : Nm2 b v z) :
    fSent b t s = mSent v z m n q := by
  have bg := beg (s := t) (m := MT_.w_to (MT_.w_limit (MT_.w_size m n.taped) 200) 0) (most := 200) h9 h0 (by decide) (by decide) hl rfl rfl hB hw
  have P1 := one_sen hN 8
  have PA : SP2 (fAll 8 b) (mAndK 8 v z) := jn_sen (k := 18) (kw := 17) (kn := 17) P1 (by decide) rfl (by decide) (by decide) (fun _ _ => rfl) (fun _ _ _ => rfl)
  have PC : SP2 (fCond 8 b) (mOrK 8 v z) := jn_sen (k := 17) (kw := 16) (kn := 16) PA (by decide) rfl (by decide) (by decide) (fun _ _ => rfl) (fun _ _ _ => rfl)
  have O0 : Ok2 0 (fBegin 200 t) (mBegin 200 m n).1 := ⟨bg.1, bg.2, by
    obtain ⟨N, k, a1, a2, a3, a4, a5⟩ := bg.1
    rw [a4]; omega⟩
  have r := PC _ _ (mBegin 200 m n).2 (fForgetS s) (QT_.w_om q 0) ⟨O0, rfl, (show 0 ≤ (0 : Int32).toInt from by decide), (show (0 : Int32).toInt ≤ 20 from by decide), (show 0 ≤ (0 : Int32).toInt from by decide), (show (0 : Int32).toInt ≤ 2 * (0 : Int32).toInt from by decide)⟩
  unfold fSent mSent fSenRead mSenRead
  obtain ⟨A, hA⟩ : ∃ A, fCond 8 b (fBegin 200 t) (fForgetS s) = A := ⟨_, rfl⟩
  obtain ⟨Z, hZ⟩ : ∃ Z, mOrK 8 v z (mBegin 200 m n).1 (mBegin 200 m n).2 (QT_.w_om q 0) = Z := ⟨_, rfl⟩
  rw [hA, hZ] at r ⊢
  rcases r with ⟨a1, a2, a3⟩ | ⟨a1, a2, a3, a4, a5, a6, a7, a8, a9⟩
  · simp only [if_pos a1, if_pos a2]
    rw [if_neg a3.1, a3.2.2]
  · have ne : ¬ A.1 = 0 := by rw [a1]; decide
    have ts := tok_stop (ok_tok a3)
    by_cases c : A.2.1.token = 102
    · have ft : fTake 102 A.2.1 = (1, fAdvance A.2.1) := by unfold fTake; rw [if_pos c]
      have fa : (fAdvance A.2.1).fault = 0 := by
        have h := a3.2.1
        unfold fAdvance
        split
        · exact h
        · exact h
      simp only [ft, if_neg ne, if_neg a2, if_neg (by decide : ¬ (1 : Int32) = 0), if_pos (ts.mpr c), if_pos fa]
      exact a4
    · have ft : fTake 102 A.2.1 = fFail 1 A.2.1 := by unfold fTake; rw [if_neg c]
      have fk := fail_ok (n := Z.2.2.1) (k := 1) a3 (by decide) (fun _ => rfl)
      simp only [ft, if_neg ne, if_neg a2, if_pos fk.1, if_neg (fun w => c (ts.mp w)), if_neg fk.2.2.1, fk.2.2.2.2]
