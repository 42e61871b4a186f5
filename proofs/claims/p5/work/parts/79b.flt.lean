/-! the FAULT behind a TABLE and a SENTENCE -/
/-- nothing, or the FAULT stays -/
def Mf (w : Int32) (q : Int32 × MN_) : Prop := q.1 = 0 ∨ q.2.2.mfault = w
section MF
variable {w : Int32} {m : MT_} {n : NR_}
theorem mf_if {p : Prop} [Decidable p] {u v : Int32 × MN_} (h1 : p → Mf w u) (h2 : ¬ p → Mf w v) : Mf w (if p then u else v) := by
  by_cases q : p
  · rw [if_pos q]; exact h1 q
  · rw [if_neg q]; exact h2 q
theorem mf_bad {k : Int32} : Mf w (mBad k m n) := Or.inl rfl
theorem mf_num {a b : Int32} (h : n.mfault = w) : Mf w (mReadNumber a b m n) := by
  unfold mReadNumber
  exact mf_if (fun _ => mf_if (fun _ => mf_bad) (fun _ => Or.inr h)) (fun _ => mf_bad)
theorem mf_first {a b : Int32} (h : n.mfault = w) : Mf w (mReadFirst a b m n) := by
  unfold mReadFirst
  exact mf_if (fun _ => mf_bad) (fun _ => Or.inr h)
theorem mf_new {k : Int32} (h : n.mfault = w) : Mf w (mReadNew k m n) := by
  unfold mReadNew
  exact mf_if (fun _ => mf_bad) (fun _ => mf_if (fun _ => mf_if (fun _ => Or.inr h) (fun _ => mf_bad)) (fun _ => mf_bad))
theorem mf_is1 {b k : Int32} (h : n.mfault = w) : Mf w (mIsOne b k m n) := by
  unfold mIsOne
  dsimp only
  exact mf_if (fun _ => mf_bad) (fun _ => mf_if (fun _ => mf_if (fun _ => Or.inl rfl) (fun q => absurd rfl q)) (fun _ => Or.inr h))
theorem mf_one {b k : Int32} (h : n.mfault = w) : Mf w (mReadOne b k m n) := by
  unfold mReadOne
  dsimp only
  exact mf_if (fun _ => Or.inl rfl) (fun q => Or.inr ((mf_is1 h).resolve_left q))
theorem mf_put {k g : Int32} (h : n.mfault = w) : (mPut k g n).2.mfault = w := by
  unfold mPut
  split
  · exact h
  · exact h
theorem mp_1 {k g : Int32} : (mPut k g n).1 = g := by
  unfold mPut
  split
  · rfl
  · rfl
theorem inc_f {j : Nat} : (mInc j n).mfault = n.mfault := rfl
theorem mf_oki {j : Nat} (h : n.mfault = w) : Mf w (1, m, mInc j n) := Or.inr (inc_f.trans h)
theorem mf_bd {z X : Int32 × MN_} (h : Mf w z) (g : z.2.2.mfault = w → Mf w X) : Mf w (if z.1 = 0 then (0, z.2) else X) := mf_if (fun _ => Or.inl rfl) (fun q => g (h.resolve_left q))
theorem mf_pb {k : Int32} {z X : Int32 × MN_} (h : Mf w z) (g : (mPut k z.1 z.2.2).2.mfault = w → Mf w X) : Mf w (if (mPut k z.1 z.2.2).1 = 0 then (0, z.2.1, (mPut k z.1 z.2.2).2) else X) := by
  refine mf_if (fun _ => Or.inl rfl) (fun q => ?_)
  rw [mp_1] at q
  exact g (mf_put (h.resolve_left q))
theorem mf_pi {k : Int32} {j : Nat} {z : Int32 × MN_} (h : Mf w z) : Mf w (if (mPut k z.1 z.2.2).1 = 0 then (0, z.2.1, (mPut k z.1 z.2.2).2) else (1, z.2.1, mInc j (mPut k z.1 z.2.2).2)) := mf_pb h (fun e => mf_oki e)
theorem mf_person2 {p : Int32} (h : n.mfault = w) : Mf w (mReadPerson2 p m n) := by
  have h5 : (NR_.w_rd n (up1 n.rd (11 + p).toNatClampNeg (-1))).mfault = w := h
  unfold mReadPerson2
  dsimp only
  obtain ⟨n5, hn5⟩ : ∃ n5, NR_.w_rd n (up1 n.rd (11 + p).toNatClampNeg (-1)) = n5 := ⟨_, rfl⟩
  rw [hn5] at h5 ⊢
  exact mf_if (fun _ => mf_oki h5) (fun _ => mf_pi (mf_one h5))
theorem mf_person (h : n.mfault = w) : Mf w (mReadPerson m n) := by
  unfold mReadPerson
  dsimp only
  exact mf_bd (mf_first h) (fun h1 => mf_bd (mf_new h1) (fun h2 => mf_pb (mf_num h2) (fun h4 => mf_person2 h4)))
theorem mf_dish (h : n.mfault = w) : Mf w (mReadDish m n) := by
  unfold mReadDish
  dsimp only
  exact mf_bd (mf_first h) (fun h1 => mf_bd (mf_new h1) (fun h2 => mf_pb (mf_num h2) (fun h4 => mf_if (fun _ => mf_oki h4) (fun _ => mf_pi (mf_num h4)))))
theorem mf_pn {a b k : Int32} (h : n.mfault = w) : Mf w ((mPut k (mReadNumber a b m n).1 (mReadNumber a b m n).2.2).1, (mReadNumber a b m n).2.1, (mPut k (mReadNumber a b m n).1 (mReadNumber a b m n).2.2).2) := by
  rcases mf_num (m := m) (a := a) (b := b) h with q | q
  · exact Or.inl (by show (mPut k (mReadNumber a b m n).1 (mReadNumber a b m n).2.2).1 = 0; rw [mp_1]; exact q)
  · exact Or.inr (mf_put q)
theorem mf_plate (h : n.mfault = w) : Mf w (mReadPlate m n) := by
  unfold mReadPlate
  dsimp only
  refine mf_if (fun _ => Or.inl rfl) (fun q1 => mf_if (fun _ => Or.inl rfl) (fun q2 => mf_if (fun _ => ?_) (fun _ => mf_bad)))
  exact mf_pn ((mf_is1 ((mf_one h).resolve_left q1)).resolve_left q2)
theorem mf_law (h : n.mfault = w) : Mf w (mReadLaw m n) := by
  unfold mReadLaw
  dsimp only
  exact mf_if (fun _ => mf_if (fun _ => Or.inr h) (fun _ => mf_bad)) (fun _ => mf_bad)
theorem mf_dogs (h : n.mfault = w) : Mf w (mReadDogs m n) := by
  unfold mReadDogs
  dsimp only
  exact mf_if (fun _ => mf_pn (n := NR_.w_hd n (1)) h) (fun _ => mf_bad)
theorem mf_line (h : n.mfault = w) : Mf w (mReadLine m n) := by
  unfold mReadLine
  exact mf_if (fun _ => mf_if (fun _ => mf_if (fun _ => mf_if (fun _ => mf_if (fun _ => mf_bad) (fun _ => mf_dogs h)) (fun _ => mf_law h)) (fun _ => mf_plate h)) (fun _ => mf_dish h)) (fun _ => mf_person h)
theorem mf_end (h : n.mfault = w) : Mf w (mReadEnd m n) := by
  unfold mReadEnd
  exact mf_if (fun _ => mf_bad) (fun _ => Or.inr h)
end MF
theorem linesF : ∀ (F : Nat) (i : Int32) (s : RS) (z : MN_), 0 ≤ i.toInt → i.toInt + F = 941 → Ok2 (2 * i.toInt) s.1 z.1 → TbR s.2.1 s.2.2.1 s.2.2.2 z.2 → z.2.mfault = 0 → (rl i s).2.1.fault = mtlF F i z
  | 0, i, s, z, h0, hF, hO, hR, hM => by
    have := hO.2.2
    obtain ⟨N, k, a1, a2, a3, a4, a5⟩ := hO.1
    omega
  | F + 1, i, s, z, h0, hF, hO, hR, hM => by
    have h450 : i.toInt ≤ 450 := by
      have := hO.2.2
      obtain ⟨N, k, a1, a2, a3, a4, a5⟩ := hO.1
      omega
    have e1 := add1 (x := i) (by omega)
    have tk := ok_tok hO
    rw [rl_eq (⟨h0, by omega⟩ : Rg 0 900 i), mtlF_eq, if_neg (fun w => by have := leI.mp w; rw [show (900 : Int32).toInt = 900 from by decide] at this; omega)]
    by_cases q : s.1.token = 102
    · rw [if_pos q, if_pos ((tok_stop tk).mpr q), hM]
      exact hO.2.1
    · rw [if_neg q, if_neg (fun w => q ((tok_stop tk).mp w))]
      have lo := line_ok hO hR
      have ml := mf_line (m := z.1) hM
      obtain ⟨Q, hQ⟩ : ∃ Q, fReadLine s.1 s.2.1 s.2.2.1 s.2.2.2 = Q := ⟨_, rfl⟩
      obtain ⟨Z, hZ⟩ : ∃ Z, mReadLine z.1 z.2 = Z := ⟨_, rfl⟩
      rw [hZ] at ml
      rw [hQ, hZ] at lo ⊢
      rcases lo with ⟨a1, a2, a3⟩ | ⟨a1, a2, a3, a4⟩
      · rw [if_pos a1]
        by_cases y : Z.1 = 0
        · rw [fin_0 y] at a3
          rw [if_pos y]; exact a3.2.1
        · rw [fin_1 y] at a2 a3
          rw [if_neg y, if_pos a2]; exact a3.2.1
      · rw [if_neg a1]
        have y : ¬ Z.1 = 0 := fun y => by rw [fin_0 y] at a2; exact a2 y
        rw [fin_1 y] at a2 a3 a4
        rw [if_neg y, if_neg a2]
        exact linesF F (i + 1) Q.2 (mReadEnd Z.2.1 Z.2.2).2 (by omega) (by omega) (by rw [e1, show 2 * (i.toInt + 1) = 2 * i.toInt + 2 by omega]; exact a3) a4 ((mf_end (ml.resolve_left y)).resolve_left a2)
theorem sentF_eq {t : TP_} {b : TB_} {s : SP_} {m : MT_} {n : NR_} {q : QT_} {v : NV_} {z : NW_} (hl : t.len = n.taped) (h0 : 0 ≤ n.taped.toInt) (h9 : n.taped.toInt ≤ 940) (hB : ∀ j : Nat, (j : Int) < n.taped.toInt → By_ (t.by_ j) (m.tp j)) (hw : Wk_ t.wd) (hN : Nm2 b v z) :
    fSentF b t s = mSentF v z m n q := by
  have bg := beg (s := t) (m := MT_.w_to (MT_.w_limit (MT_.w_size m n.taped) 200) 0) (most := 200) h9 h0 (by decide) (by decide) hl rfl rfl hB hw
  have P1 := one_sen hN 8
  have PA : SP2 (fAll 8 b) (mAndK 8 v z) := jn_sen (k := 18) (kw := 17) (kn := 17) P1 (by decide) rfl (by decide) (by decide) (fun _ _ => rfl) (fun _ _ _ => rfl)
  have PC : SP2 (fCond 8 b) (mOrK 8 v z) := jn_sen (k := 17) (kw := 16) (kn := 16) PA (by decide) rfl (by decide) (by decide) (fun _ _ => rfl) (fun _ _ _ => rfl)
  have O0 : Ok2 0 (fBegin 200 t) (mBegin 200 m n).1 := ⟨bg.1, bg.2, by
    obtain ⟨N, k, a1, a2, a3, a4, a5⟩ := bg.1
    rw [a4]; omega⟩
  have r := PC _ _ (mBegin 200 m n).2 (fForgetS s) (QT_.w_om q 0) ⟨O0, rfl, (show 0 ≤ (0 : Int32).toInt from by decide), (show (0 : Int32).toInt ≤ 20 from by decide), (show 0 ≤ (0 : Int32).toInt from by decide), (show (0 : Int32).toInt ≤ 2 * (0 : Int32).toInt from by decide)⟩
  unfold fSentF mSentF fSenRead mSenRead
  obtain ⟨A, hA⟩ : ∃ A, fCond 8 b (fBegin 200 t) (fForgetS s) = A := ⟨_, rfl⟩
  obtain ⟨Z, hZ⟩ : ∃ Z, mOrK 8 v z (mBegin 200 m n).1 (mBegin 200 m n).2 (QT_.w_om q 0) = Z := ⟨_, rfl⟩
  rw [hA, hZ] at r ⊢
  rcases r with ⟨a1, a2, a3⟩ | ⟨a1, a2, a3, a4, a5, a6, a7, a8, a9⟩
  · simp only [if_pos a1, if_pos a2]
    exact a3.2.1
  · have ne : ¬ A.1 = 0 := by rw [a1]; decide
    have ts := tok_stop (ok_tok a3)
    by_cases c : A.2.1.token = 102
    · have ft : fTake 102 A.2.1 = (1, fAdvance A.2.1) := by unfold fTake; rw [if_pos c]
      have fa : (fAdvance A.2.1).fault = 0 := by
        have h := a3.2.1
        unfold fAdvance
        split
        · exact h
        · exact h
      simp only [ft, if_neg ne, if_neg a2, if_neg (by decide : ¬ (1 : Int32) = 0), if_pos (ts.mpr c)]
      rw [fa, a9]; rfl
    · have ft : fTake 102 A.2.1 = fFail 1 A.2.1 := by unfold fTake; rw [if_neg c]
      have fk := fail_ok (n := Z.2.2.1) (k := 1) a3 (by decide) (fun _ => rfl)
      simp only [ft, if_neg ne, if_neg a2, if_pos fk.1, if_neg (fun w => c (ts.mp w))]
      exact fk.2.2.2.1
theorem tableF_eq {t : TP_} {b : TB_} {c : CP_} {x : XP_} {m : MT_} {n : NR_} (hl : t.len = n.taped) (h0 : 0 ≤ n.taped.toInt) (h9 : n.taped.toInt ≤ 940) (hB : ∀ j : Nat, (j : Int) < n.taped.toInt → By_ (t.by_ j) (m.tp j)) (hw : Wk_ t.wd) :
    fTableF t b c x = mTableF m n := by
  have bg := beg (s := t) (m := MT_.w_to (MT_.w_limit (MT_.w_size m n.taped) 900) 0) (most := 900) h9 h0 (by decide) (by decide) hl rfl rfl hB hw
  obtain ⟨r, z1, z2⟩ := mzr_n 72 0 (NR_.w_mfault (NR_.w_taped n 0) 0) (by decide) (by decide)
  have em : mTbStart m n = (mGo (MT_.w_to (MT_.w_limit (MT_.w_size m n.taped) 900) 0), NR_.w_hd (NR_.w_hl (mzr 0 (NR_.w_mfault (NR_.w_taped n 0) 0)) 0) 0) := by simp only [mTbStart, mTz, mBegin, mTake]
  unfold fTableF mTableF fReadFrom
  rw [em, z1]
  have rz : ∀ j : Nat, j < 72 → r j = 0 := fun j hj => (z2 j).2 (by rw [k0]; omega) hj
  have cz : ∀ j : Nat, j < 42 → (fForgetC c).pcs j = 0 := fun j hj => (fz_n 42 0 c (by decide) (by decide) j).2 (by rw [k0]; omega) hj
  refine linesF 941 0 (fRfStart t b c x) (_, _) (by decide) (by decide) ⟨bg.1, bg.2, ?_⟩ ⟨(show 0 ≤ (0 : Int32).toInt from by decide), (show (0 : Int32).toInt ≤ 7 from by decide), (show 0 ≤ (0 : Int32).toInt from by decide), (show (0 : Int32).toInt ≤ 6 from by decide), rz 0 (by decide), rz 1 (by decide), rz 2 (by decide), rz 3 (by decide), fun j hj => ?_, fun j hj => ?_, fun j hj => ?_, rfl, rfl, fun j hj => ?_⟩ rfl
  · obtain ⟨N, k, a1, a2, a3, a4, a5⟩ := bg.1
    show 2 * (0 : Int32).toInt ≤ (fBegin 900 t).at_.toInt
    rw [a4, k0]; omega
  · have : (j : Int) < (0 : Int32).toInt := hj
    rw [k0] at this; omega
  · have : (j : Int) < (0 : Int32).toInt := hj
    rw [k0] at this; omega
  · exact (rz (30 + j) (by omega)).trans (cz j hj).symm
  · show 0 ≤ ((fForgetC c).pcs j).toInt
    rw [cz j hj]; decide
