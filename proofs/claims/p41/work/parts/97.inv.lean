/-- two parts of the pool: that of the class's object (and the row out), that of the reference's -/
def Lv_ (L LX LM : List Nat) (κ ln : Nat → Nat) (R : Nat → Nat → Option Nat) (ow : Nat → Nat × Nat) (x mm oo im0 im1 kp : Nat) : Prop := (∀ a ∈ LX, a ∈ L) ∧ LX.Nodup ∧ (∀ a ∈ LM, a ∈ L) ∧ LM.Nodup ∧ (∀ a ∈ LM, a ∉ LX) ∧ (∀ a ∈ LX, Shp LX κ ln R ow a) ∧ (∀ a ∈ LM, Shp LM κ ln R ow a) ∧ (x ∈ LX ∧ κ x = 11) ∧ (mm ∈ LM ∧ κ mm = 12) ∧ (oo ∈ LX ∧ κ oo = 15 ∧ ln oo = 1) ∧ ((∃ A, R x 12 = some A ∧ R A 0 = some im0 ∧ R A 1 = some im1) ∧ im0 ∈ LX ∧ κ im0 = 3 ∧ im1 ∈ LX ∧ κ im1 = 3 ∧ im0 ≠ im1) ∧ (R mm 22 = some kp ∧ kp ∈ LM ∧ ro_ κ ow kp = 842)
/-- both are as they may be; f0, f1 of the class are kept, g0, g1 of the reference -/
def Lw_ (LX LM : List Nat) (κ : Nat → Nat) (R : Nat → Nat → Option Nat) (ow : Nat → Nat × Nat) (im0 im1 kp : Nat) (I : Nat → Nat → Int32) (f0 f1 g0 g1 : Int32) : Prop := Iv LX κ R ow I ∧ Iw LM κ R ow I ∧ (I im0 3 = f0 ∧ I im1 3 = f1) ∧ (I kp 0 = g0 ∧ I kp 1 = g1)
/-- where the law stands, and its script -/
def Lc_ (p : Program) (s : State) (m : MethodId) (c : Code) (D : va_G) (cy : Nat → ClassId) (L : List Nat) (b N : Nat) (xs : Nat → Int32) : Prop := CallFix p m c cL_law 7 s #[Value.ref b] GT RL ∧ Wc_ D cy (AN_ [] s.heap.size) L s ∧ va_X b N xs s s.heap ∧ b < s.heap.size ∧ ¬ AN_ [] s.heap.size b
section LWI
variable {L LX LM : List Nat} {κ ln : Nat → Nat} {R : Nat → Nat → Option Nat} {ow : Nat → Nat × Nat} {x mm oo im0 im1 kp : Nat} {I I2 I3 : Nat → Nat → Int32} {f0 f1 g0 g1 h0 h9 : Int32} {T : List Nat}
theorem iv_cg (W9 : ∀ a ∈ L, Shp L κ ln R ow a) (h : Iv L κ R ow I) (e : ∀ a ∈ L, I2 a = I a) : Iv L κ R ow I2 := iv_of W9 h (fun a ha j => by rw [e a ha]; exact h.1 a ha j) (fun c hc i _ => by rw [e c hc])
theorem iw_cg (W9 : ∀ a ∈ L, Shp L κ ln R ow a) (h : Iw L κ R ow I) (e : ∀ a ∈ L, I2 a = I a) : Iw L κ R ow I2 := ⟨fun a ha j => by rw [e a ha]; exact h.1 a ha j, gm_of W9 h.2 (fun c hc i _ => by rw [e c hc])⟩
theorem lx_set (H : Lv_ L LX LM κ ln R ow x mm oo im0 im1 kp) (h : Lw_ LX LM κ R ow im0 im1 kp I f0 f1 g0 g1) (h1 : Iv LX κ R ow I2) (ht : I2 im0 3 = h0 ∧ I2 im1 3 = h9) (e1 : ∀ a ∈ LX, I3 a = I2 a) (e2 : ∀ a, a ∉ LX → I3 a = I a) : Lw_ LX LM κ R ow im0 im1 kp I3 h0 h9 g0 g1 := by
  obtain ⟨-, -, -, -, hdj, Wx, Wm, -, -, -, ⟨-, i0, j0, i1, j1, -⟩, ⟨hR, hkp, rkp⟩⟩ := H
  exact ⟨iv_cg Wx h1 e1, iw_cg Wm h.2.1 (fun a ha => e2 a (hdj a ha)), ⟨by rw [e1 im0 i0]; exact ht.1, by rw [e1 im1 i1]; exact ht.2⟩, ⟨by rw [e2 kp (hdj kp hkp)]; exact h.2.2.2.1, by rw [e2 kp (hdj kp hkp)]; exact h.2.2.2.2⟩⟩
theorem lx_keep (H : Lv_ L LX LM κ ln R ow x mm oo im0 im1 kp) (h : Lw_ LX LM κ R ow im0 im1 kp I f0 f1 g0 g1) (h1 : Iv LX κ R ow I2) (h2 : Fq LX κ ow T I I2) (hT : 3 * 100 + 3 ∉ T) (e1 : ∀ a ∈ LX, I3 a = I2 a) (e2 : ∀ a, a ∉ LX → I3 a = I a) : Lw_ LX LM κ R ow im0 im1 kp I3 f0 f1 g0 g1 := by
  have H0 := H
  obtain ⟨-, -, -, -, hdj, Wx, Wm, -, -, -, ⟨-, i0, j0, i1, j1, -⟩, ⟨hR, hkp, rkp⟩⟩ := H
  exact lx_set H0 h h1 ⟨fq_at h2 i0 j0 (by decide) hT h.2.2.1.1, fq_at h2 i1 j1 (by decide) hT h.2.2.1.2⟩ e1 e2
theorem lx_pure (H : Lv_ L LX LM κ ln R ow x mm oo im0 im1 kp) (h : Lw_ LX LM κ R ow im0 im1 kp I f0 f1 g0 g1) (h1 : I = I2) (e1 : ∀ a ∈ LX, I3 a = I2 a) (e2 : ∀ a, a ∉ LX → I3 a = I a) : Lw_ LX LM κ R ow im0 im1 kp I3 f0 f1 g0 g1 := by
  subst h1
  exact lx_set H h h.1 h.2.2.1 e1 e2
theorem lm_set (H : Lv_ L LX LM κ ln R ow x mm oo im0 im1 kp) (h : Lw_ LX LM κ R ow im0 im1 kp I f0 f1 g0 g1) (h1 : Iw LM κ R ow I2) (ht : I2 kp 0 = h0 ∧ I2 kp 1 = h9) (e1 : ∀ a ∈ LM, I3 a = I2 a) (e2 : ∀ a, a ∉ LM → I3 a = I a) : Lw_ LX LM κ R ow im0 im1 kp I3 f0 f1 h0 h9 := by
  obtain ⟨-, -, -, -, hdj, Wx, Wm, -, -, -, ⟨-, i0, j0, i1, j1, -⟩, ⟨hR, hkp, rkp⟩⟩ := H
  have hdx : ∀ a ∈ LX, a ∉ LM := fun a ha q => hdj a q ha
  exact ⟨iv_cg Wx h.1 (fun a ha => e2 a (hdx a ha)), iw_cg Wm h1 e1, ⟨by rw [e2 im0 (hdx im0 i0)]; exact h.2.2.1.1, by rw [e2 im1 (hdx im1 i1)]; exact h.2.2.1.2⟩, ⟨by rw [e1 kp hkp]; exact ht.1, by rw [e1 kp hkp]; exact ht.2⟩⟩
theorem lm_keep (H : Lv_ L LX LM κ ln R ow x mm oo im0 im1 kp) (h : Lw_ LX LM κ R ow im0 im1 kp I f0 f1 g0 g1) (h1 : Iw LM κ R ow I2) (h2 : Fq LM κ ow T I I2) (hT : 842 * 100 ∉ T) (e1 : ∀ a ∈ LM, I3 a = I2 a) (e2 : ∀ a, a ∉ LM → I3 a = I a) : Lw_ LX LM κ R ow im0 im1 kp I3 f0 f1 g0 g1 := by
  have H0 := H
  obtain ⟨-, -, -, -, hdj, Wx, Wm, -, -, -, ⟨-, i0, j0, i1, j1, -⟩, ⟨hR, hkp, rkp⟩⟩ := H
  exact lm_set H0 h h1 ⟨fq_ar h2 hkp rkp (by decide) hT h.2.2.2.1, fq_ar h2 hkp rkp (by decide) hT h.2.2.2.2⟩ e1 e2
theorem lm_pure (H : Lv_ L LX LM κ ln R ow x mm oo im0 im1 kp) (h : Lw_ LX LM κ R ow im0 im1 kp I f0 f1 g0 g1) (h1 : I = I2) (e1 : ∀ a ∈ LM, I3 a = I2 a) (e2 : ∀ a, a ∉ LM → I3 a = I a) : Lw_ LX LM κ R ow im0 im1 kp I3 f0 f1 g0 g1 := by
  subst h1
  exact lm_set H h h.2.1 h.2.2.2 e1 e2
end LWI
theorem nI_a (i k : Nat) : nI i + nI k = nI (i + k) := (Int32.ofNat_add i k).symm
theorem xs_in {N i j : Nat} (hi : i + 6 ≤ N) (hj : j < 6) (hN : N ≤ 3072) : vp_in (nI (i + j)) N := vi_of (nI_clamp (by omega)) (nI_pos (by omega)) (by omega)
theorem xs_at_ {xs : Nat → Int32} {N i j : Nat} (hi : i + 6 ≤ N) (hj : j < 6) (hN : N ≤ 3072) : xs (nI (i + j)).toNatClampNeg = xs (i + j) := by rw [nI_clamp (by omega)]
theorem n6_lt {N i : Nat} (hN : N ≤ 3072) (hi : i ≤ 4000) (h : ¬ nI N - 6 < nI i) : i + 6 ≤ N := by
  have q := Int32.not_lt.mp h
  have q := Int32.le_iff_toInt_le.mp q
  rw [nI_toInt (by omega), i_sub (by rw [nI_toInt (by omega), show (6 : Int32).toInt = 6 from by decide]; omega) (by rw [nI_toInt (by omega), show (6 : Int32).toInt = 6 from by decide]; omega), nI_toInt (by omega), show (6 : Int32).toInt = 6 from by decide] at q
  omega
section LW0
variable {L : List Nat} {κ ln : Nat → Nat} {R : Nat → Nat → Option Nat} {ow : Nat → Nat × Nat} {I : Nat → Nat → Int32}
theorem b0_I (r j : Nat) : (bI r j).1 ≤ 0 ∧ 0 ≤ (bI r j).2 := by
  unfold bI; split
  · unfold bO; split <;> exact ⟨by decide, by decide⟩
  · unfold bA; split <;> exact ⟨by decide, by decide⟩
theorem b0_rz (j : Nat) : (rz_ j).1 ≤ 0 ∧ 0 ≤ (rz_ j).2 := by
  unfold rz_; repeat' split
  all_goals exact ⟨by decide, by decide⟩
theorem b0_N (r j : Nat) : (bN r j).1 ≤ 0 ∧ 0 ≤ (bN r j).2 := by
  unfold bN; split
  · unfold nO; split <;> exact ⟨by decide, by decide⟩
  · unfold nA; split <;> first | exact z0_in _ | exact b0_rz _ | exact ⟨by decide, by decide⟩
theorem iv_0 (W9 : ∀ a ∈ L, Shp L κ ln R ow a) (F : ∀ a ∈ L, ∀ j, I a j = fv_ (κ a) j) : Iv L κ R ow I := by
  refine ⟨fun a ha j => ?_, fun s hs hk A N hA hN j h => ?_, fun x hx hk j hj => ?_⟩
  · rw [F a ha j]
    unfold fv_
    split
    · rename_i q
      rw [ro_o q.1 (by decide), q.2]
      exact ⟨by decide, by decide⟩
    · split
      · rename_i q
        rw [ro_o q.1 (by decide)]
        rcases q.2 with e | e <;> rw [e] <;> exact ⟨by decide, by decide⟩
      · split
        · rename_i q
          rw [ro_o q.1 (by decide)]
          rcases q.2 with e | e <;> rw [e] <;> exact ⟨by decide, by decide⟩
        · exact b0_I _ _
  · obtain ⟨b, h1, h2, h3, -⟩ := shp_a (W9 s hs) hk 0 14 40 rfl (by decide)
    rw [hA] at h1; cases h1
    rw [F A h2 j, h3] at h
    exact absurd h (by unfold fv_; rw [if_neg (by omega), if_neg (by omega), if_neg (by omega)]; decide)
  · rw [F x hx 4, hk] at hj
    exact absurd hj (by rw [show (fv_ 0 4).toInt = 0 from by decide]; omega)
theorem tr_0 {g : Nat → Int32} (h : ∀ j, g j = 0) : Tr g := fun k hk => by
  rw [h, h, h]
  exact ⟨fun q => absurd q (by decide), fun q => absurd q (by decide), fun q => absurd q (by decide)⟩
theorem gs_0 {h g : Nat → Int32} (h1 : ∀ j, h j = 0) (h2 : ∀ j, g j = 0) : Gs h g := ⟨fun p _ => by rw [h1, h2]; exact Int.le_refl _, fun d _ => by unfold wd_; rw [h2, h2, h2, h2, h2, h2, h2, h2]; decide⟩
theorem iw_0 (W9 : ∀ a ∈ L, Shp L κ ln R ow a) (h1 : ∀ x ∈ L, ∀ y ∈ L, κ x = 12 → κ y = 12 → x = y) (hk : ∀ a ∈ L, κ a = 12 ∨ (14 ≤ κ a ∧ κ a ≤ 16)) (F : ∀ a ∈ L, ∀ j, I a j = fv_ (κ a) j) : Iw L κ R ow I := by
  have z : ∀ a ∈ L, 14 ≤ κ a → κ a ≤ 16 → ∀ j, I a j = 0 := fun a ha q1 q2 j => by
    rw [F a ha j]; unfold fv_; rw [if_neg (by omega), if_neg (by omega), if_neg (by omega)]
  refine ⟨fun a ha j => ?_, h1, fun x hx hkx a s k nd rw h2 h3 h4 h5 h6 => ?_⟩
  · rcases hk a ha with q | q
    · rw [F a ha j, q, ro_o q (by decide)]
      unfold fv_
      rw [if_neg (by omega), if_neg (by omega)]
      split
      · rename_i e
        rcases e.2 with e | e <;> rw [e] <;> exact ⟨by decide, by decide⟩
      · exact b0_N _ _
    · rw [z a ha q.1 q.2 j]; exact b0_N _ _
  · obtain ⟨a', p1, p2, p3, -⟩ := shp_a (W9 x hx) hkx 14 14 389 rfl (by decide)
    rw [h2] at p1; cases p1
    obtain ⟨s', q1, q2, q3, -⟩ := shp_a (W9 x hx) hkx 17 14 600 rfl (by decide)
    rw [h3] at q1; cases q1
    obtain ⟨k', r1, r2, r3, -⟩ := shp_a (W9 x hx) hkx 16 14 778 rfl (by decide)
    rw [h4] at r1; cases r1
    obtain ⟨n', s1, s2, s3, -⟩ := shp_a (W9 x hx) hkx 46 14 240 rfl (by decide)
    rw [h5] at s1; cases s1
    have za := z a p2 (by omega) (by omega)
    have zs := z s q2 (by omega) (by omega)
    have zk := z k r2 (by omega) (by omega)
    have zn := z nd s2 (by omega) (by omega)
    have e44 : I x 44 = 0 := by rw [F x hx 44, hkx]; decide
    exact ⟨gs_0 za (fun _ => za _), fun j _ => gs_0 za (fun _ => zs _), fun q _ => gs_0 (fun _ => zk _) (fun _ => zk _), tr_0 (fun _ => za _), fun q _ => tr_0 (fun _ => zk _), tr_0 zn, fun j hj => absurd hj (by rw [e44, show (0 : Int32).toInt = 0 from by decide]; omega)⟩
/-- a pool of the reference alone: it and its rows -/
theorem lm_0 {Lm : List Nat} {mm : Nat} (hn : Lm.Nodup) (hm : mm ∈ Lm) (hk : κ mm = 12) (W : Shp Lm κ ln R ow mm) : ∃ LM : List Nat, (∀ a ∈ LM, a ∈ Lm) ∧ LM.Nodup ∧ mm ∈ LM ∧ (∀ a ∈ LM, Shp LM κ ln R ow a) ∧ (∀ x ∈ LM, ∀ y ∈ LM, κ x = 12 → κ y = 12 → x = y) ∧ (∀ a ∈ LM, κ a = 12 ∨ (14 ≤ κ a ∧ κ a ≤ 16)) := by
  classical
  let p : Nat → Prop := fun b => b = mm ∨ ∃ k, R mm k = some b ∧ 14 ≤ κ b ∧ κ b ≤ 16
  have hp : ∀ a, a ∈ Lm.filter (fun b => decide (p b)) ↔ a ∈ Lm ∧ p a := fun a => by rw [List.mem_filter, decide_eq_true_eq]
  have hu : ∀ a, p a → κ a = 12 → a = mm := fun a h q => h.elim id (fun ⟨k, h1, h2, h3⟩ => by omega)
  refine ⟨Lm.filter (fun b => decide (p b)), fun a h => ((hp a).mp h).1, hn.filter _, (hp mm).mpr ⟨hm, Or.inl rfl⟩, fun a h => ?_, fun x h y h2 q1 q2 => (hu x ((hp x).mp h).2 q1).trans (hu y ((hp y).mp h2).2 q2).symm, fun a h => ?_⟩
  · rcases ((hp a).mp h).2 with e | ⟨k, h1, h2, h3⟩
    · subst e
      refine ⟨fun k q hq h9 => ?_, fun q => by omega, fun q => by omega⟩
      obtain ⟨b, p1, p2, p3, p4⟩ := W.1 k q hq h9
      have hq2 : q.1 = 14 ∨ q.1 = 15 ∨ q.1 = 16 := by
        rw [hk] at hq
        have hm := List.mem_of_getElem? hq
        have : ∀ t ∈ rt_.getD 12 [], t.1 < 99 → t.1 = 14 ∨ t.1 = 15 ∨ t.1 = 16 := by decide
        exact this q hm h9
      exact ⟨b, p1, (hp b).mpr ⟨p2, Or.inr ⟨k, p1, by omega, by omega⟩⟩, p3, p4⟩
    · refine ⟨fun k q hq h9 => ?_, fun q => by omega, fun q => by omega⟩
      have : κ a = 14 ∨ κ a = 15 ∨ κ a = 16 := by omega
      rcases this with e | e | e <;> rw [e] at hq <;> exact absurd hq (by simp [rt_])
  · rcases ((hp a).mp h).2 with e | ⟨k, h1, h2, h3⟩
    · rw [e]; exact Or.inl hk
    · exact Or.inr ⟨h2, h3⟩
end LW0
