theorem dX11_image_0 : decode cX11_image 0 = .ok (.iload_n 1, 1) := by decide +kernel
theorem dX11_image_1 : decode cX11_image 1 = .ok (.ifCond .lt 8, 3) := by decide +kernel
theorem dX11_image_4 : decode cX11_image 4 = .ok (.iload_n 1, 1) := by decide +kernel
theorem dX11_image_5 : decode cX11_image 5 = .ok (.iconst 2, 1) := by decide +kernel
theorem dX11_image_6 : decode cX11_image 6 = .ok (.if_icmp .lt 5, 3) := by decide +kernel
theorem dX11_image_9 : decode cX11_image 9 = .ok (.iconst 0, 1) := by decide +kernel
theorem dX11_image_10 : decode cX11_image 10 = .ok (.ireturn, 1) := by decide +kernel
theorem dX11_image_11 : decode cX11_image 11 = .ok (.aload_n 0, 1) := by decide +kernel
theorem dX11_image_12 : decode cX11_image 12 = .ok (.getfield 89, 3) := by decide +kernel
theorem dX11_image_15 : decode cX11_image 15 = .ok (.iload_n 1, 1) := by decide +kernel
theorem dX11_image_16 : decode cX11_image 16 = .ok (.aaload, 1) := by decide +kernel
theorem dX11_image_17 : decode cX11_image 17 = .ok (.aload_n 0, 1) := by decide +kernel
theorem dX11_image_18 : decode cX11_image 18 = .ok (.getfield 19, 3) := by decide +kernel
theorem dX11_image_21 : decode cX11_image 21 = .ok (.aload_n 0, 1) := by decide +kernel
theorem dX11_image_22 : decode cX11_image 22 = .ok (.getfield 28, 3) := by decide +kernel
theorem dX11_image_25 : decode cX11_image 25 = .ok (.aload_n 0, 1) := by decide +kernel
theorem dX11_image_26 : decode cX11_image 26 = .ok (.getfield 59, 3) := by decide +kernel
theorem dX11_image_29 : decode cX11_image 29 = .ok (.invokevirtual 379, 3) := by decide +kernel
theorem dX11_image_32 : decode cX11_image 32 = .ok (.iconst 1, 1) := by decide +kernel
theorem dX11_image_33 : decode cX11_image 33 = .ok (.ireturn, 1) := by decide +kernel
theorem dX11_restore_0 : decode cX11_restore 0 = .ok (.iload_n 1, 1) := by decide +kernel
theorem dX11_restore_1 : decode cX11_restore 1 = .ok (.ifCond .lt 20, 3) := by decide +kernel
theorem dX11_restore_4 : decode cX11_restore 4 = .ok (.iload_n 1, 1) := by decide +kernel
theorem dX11_restore_5 : decode cX11_restore 5 = .ok (.iconst 2, 1) := by decide +kernel
theorem dX11_restore_6 : decode cX11_restore 6 = .ok (.if_icmp .ge 15, 3) := by decide +kernel
theorem dX11_restore_9 : decode cX11_restore 9 = .ok (.aload_n 0, 1) := by decide +kernel
theorem dX11_restore_10 : decode cX11_restore 10 = .ok (.getfield 89, 3) := by decide +kernel
theorem dX11_restore_13 : decode cX11_restore 13 = .ok (.iload_n 1, 1) := by decide +kernel
theorem dX11_restore_14 : decode cX11_restore 14 = .ok (.aaload, 1) := by decide +kernel
theorem dX11_restore_15 : decode cX11_restore 15 = .ok (.getfield 383, 3) := by decide +kernel
theorem dX11_restore_18 : decode cX11_restore 18 = .ok (.ifCond .ne 5, 3) := by decide +kernel
theorem dX11_restore_21 : decode cX11_restore 21 = .ok (.iconst 0, 1) := by decide +kernel
theorem dX11_restore_22 : decode cX11_restore 22 = .ok (.ireturn, 1) := by decide +kernel
theorem dX11_restore_23 : decode cX11_restore 23 = .ok (.aload_n 0, 1) := by decide +kernel
theorem dX11_restore_24 : decode cX11_restore 24 = .ok (.getfield 19, 3) := by decide +kernel
theorem dX11_restore_27 : decode cX11_restore 27 = .ok (.aload_n 0, 1) := by decide +kernel
theorem dX11_restore_28 : decode cX11_restore 28 = .ok (.getfield 89, 3) := by decide +kernel
theorem dX11_restore_31 : decode cX11_restore 31 = .ok (.iload_n 1, 1) := by decide +kernel
theorem dX11_restore_32 : decode cX11_restore 32 = .ok (.aaload, 1) := by decide +kernel
theorem dX11_restore_33 : decode cX11_restore 33 = .ok (.getfield 386, 3) := by decide +kernel
theorem dX11_restore_36 : decode cX11_restore 36 = .ok (.invokevirtual 120, 3) := by decide +kernel
theorem dX11_restore_39 : decode cX11_restore 39 = .ok (.aload_n 0, 1) := by decide +kernel
theorem dX11_restore_40 : decode cX11_restore 40 = .ok (.getfield 28, 3) := by decide +kernel
theorem dX11_restore_43 : decode cX11_restore 43 = .ok (.aload_n 0, 1) := by decide +kernel
theorem dX11_restore_44 : decode cX11_restore 44 = .ok (.getfield 89, 3) := by decide +kernel
theorem dX11_restore_47 : decode cX11_restore 47 = .ok (.iload_n 1, 1) := by decide +kernel
theorem dX11_restore_48 : decode cX11_restore 48 = .ok (.aaload, 1) := by decide +kernel
theorem dX11_restore_49 : decode cX11_restore 49 = .ok (.getfield 387, 3) := by decide +kernel
theorem dX11_restore_52 : decode cX11_restore 52 = .ok (.invokevirtual 126, 3) := by decide +kernel
theorem dX11_restore_55 : decode cX11_restore 55 = .ok (.aload_n 0, 1) := by decide +kernel
theorem dX11_restore_56 : decode cX11_restore 56 = .ok (.getfield 59, 3) := by decide +kernel
theorem dX11_restore_59 : decode cX11_restore 59 = .ok (.aload_n 0, 1) := by decide +kernel
theorem dX11_restore_60 : decode cX11_restore 60 = .ok (.getfield 89, 3) := by decide +kernel
theorem dX11_restore_63 : decode cX11_restore 63 = .ok (.iload_n 1, 1) := by decide +kernel
theorem dX11_restore_64 : decode cX11_restore 64 = .ok (.aaload, 1) := by decide +kernel
theorem dX11_restore_65 : decode cX11_restore 65 = .ok (.getfield 388, 3) := by decide +kernel
theorem dX11_restore_68 : decode cX11_restore 68 = .ok (.invokevirtual 365, 3) := by decide +kernel
theorem dX11_restore_71 : decode cX11_restore 71 = .ok (.aload_n 0, 1) := by decide +kernel
theorem dX11_restore_72 : decode cX11_restore 72 = .ok (.getfield 38, 3) := by decide +kernel
theorem dX11_restore_75 : decode cX11_restore 75 = .ok (.invokevirtual 132, 3) := by decide +kernel
theorem dX11_restore_78 : decode cX11_restore 78 = .ok (.iconst 1, 1) := by decide +kernel
theorem dX11_restore_79 : decode cX11_restore 79 = .ok (.ireturn, 1) := by decide +kernel
theorem dX3_keep_0 : decode cX3_keep 0 = .ok (.aload_n 0, 1) := by decide +kernel
theorem dX3_keep_1 : decode cX3_keep 1 = .ok (.getfield 10, 3) := by decide +kernel
theorem dX3_keep_4 : decode cX3_keep 4 = .ok (.aload_n 1, 1) := by decide +kernel
theorem dX3_keep_5 : decode cX3_keep 5 = .ok (.invokevirtual 36, 3) := by decide +kernel
theorem dX3_keep_8 : decode cX3_keep 8 = .ok (.aload_n 0, 1) := by decide +kernel
theorem dX3_keep_9 : decode cX3_keep 9 = .ok (.getfield 21, 3) := by decide +kernel
theorem dX3_keep_12 : decode cX3_keep 12 = .ok (.aload_n 2, 1) := by decide +kernel
theorem dX3_keep_13 : decode cX3_keep 13 = .ok (.invokevirtual 39, 3) := by decide +kernel
theorem dX3_keep_16 : decode cX3_keep 16 = .ok (.aload_n 0, 1) := by decide +kernel
theorem dX3_keep_17 : decode cX3_keep 17 = .ok (.getfield 28, 3) := by decide +kernel
theorem dX3_keep_20 : decode cX3_keep 20 = .ok (.aload_n 3, 1) := by decide +kernel
theorem dX3_keep_21 : decode cX3_keep 21 = .ok (.invokevirtual 42, 3) := by decide +kernel
theorem dX3_keep_24 : decode cX3_keep 24 = .ok (.aload_n 0, 1) := by decide +kernel
theorem dX3_keep_25 : decode cX3_keep 25 = .ok (.iconst 1, 1) := by decide +kernel
theorem dX3_keep_26 : decode cX3_keep 26 = .ok (.putfield 32, 3) := by decide +kernel
theorem dX3_keep_29 : decode cX3_keep 29 = .ok (.return_, 1) := by decide +kernel
set_option maxRecDepth 100000 in
set_option maxHeartbeats 8000000 in
theorem c_X3_keep {l : Launch} {D : va_G} {cy : Nat → ClassId} {L : List Nat} {κ ln : Nat → Nat} {R : Nat → Nat → Option Nat} {I : Nat → Nat → Int32} {J : Nat → Nat → Int64} {ow : Nat → Nat × Nat} (W9 : ∀ a ∈ L, Shp L κ ln R ow a) {x : Nat} (hLx : x ∈ L) (hkx : κ x = 3) {a0 : Nat} (hLa0 : a0 ∈ L) (hka0 : κ a0 = 8) {a1 : Nat} (hLa1 : a1 ∈ L) (hka1 : κ a1 = 1) {a2 : Nat} (hLa2 : a2 ∈ L) (hka2 : κ a2 = 7) (hU : Iv L κ R ow I) : CtV l yX3_keep cX3_keep 4 none { frames := 2, cells := 0, slots := 0, locals := 81 } D cy L κ ln R I J [.ref x, .ref a0, .ref a1, .ref a2] (fun I2 J2 => Iv L κ R ow I2 ∧ Fq L κ ow [107, 108, 109, 110, 111, 112, 303, 704, 705, 805, 806, 807, 808, 16100, 16200, 16300, 16400, 16500, 16600, 52000, 52100, 52200, 58100, 58200, 58400] I I2 ∧ Fq L κ ow [58000, 58300] J J2 ∧ (Kt_ L κ R I I2 [rr_ R x 0]) ∧ (∀ t, R x 0 = some t → Sc_ R I I2 t a0) ∧ (I2 x 3 = 1 ∧ ∀ c, c ∈ L → κ c = 3 → c ≠ x → I2 c 3 = I c 3) ∧ (Kn_ L κ R J J2 [rr_ R x 0]) ∧ (∀ t, R x 0 = some t → Sn_ R J J2 t a0)) := by
  refine CtV.of (by decide +kernel) (Nat.le_of_ble_eq_true rfl) ?_
  intro p e s m below meth c B K
  have C := B.1
  have hF : Fq L κ ow [107, 108, 109, 110, 111, 112, 303, 704, 705, 805, 806, 807, 808, 16100, 16200, 16300, 16400, 16500, 16600, 52000, 52100, 52200, 58100, 58200, 58400] I I := fq_rf
  have hG : Fq L κ ow [58000, 58300] J J := fq_rf
  obtain ⟨b_1, hb_1, hb_1L, hb_1k⟩ := shp_o (W9 x hLx) hkx 2 7 rfl (by decide)
  obtain ⟨b_2, hb_2, hb_2L, hb_2k⟩ := shp_o (W9 x hLx) hkx 1 1 rfl (by decide)
  obtain ⟨b_3, hb_3, hb_3L, hb_3k⟩ := shp_o (W9 x hLx) hkx 0 8 rfl (by decide)
  refine g_lo (is := [0, 1, 2, 3]) (lo2 := [(0, .ref x), (1, .ref a0), (2, .ref a1), (3, .ref a2)]) rfl ?_
  refine g_aload_n C 0 dX3_keep_0 rfl rfl ?_
  refine g_getR C K hLx hkx f_3_10 hb_3 dX3_keep_1 ?_
  refine g_aload_n C 1 dX3_keep_4 rfl rfl ?_
  refine g_callVV C K (c_X8_become W9 hb_3L hb_3k hLa0 hka0  hU) hb_3L hb_3k (by decide) rfl v_3_36 rfl ⟨rfl, rfl⟩ ⟨Nat.le_of_ble_eq_true rfl, Nat.le_of_ble_eq_true rfl⟩ (Nat.le_of_ble_eq_true rfl) ⟨Nat.le_of_ble_eq_true rfl, Nat.le_of_ble_eq_true rfl⟩ dX3_keep_5 rfl (st := []) (fun I_5 J_6 h_7 => ?_)
  obtain ⟨hUI_5, hFI_5, hGJ_6, ex_4⟩ := h_7
  have hF_8 := fq_tr hF hFI_5 (by decide)
  have hG_9 := fq_tr hG hGJ_6 (by decide)
  have kt_10 : Kt_ L κ R I I_5 [rr_ R x 0] := (kt_t kt_rf ex_4.1 (by simp only [rr_s hb_3]; simp only [List.mem_cons, List.not_mem_nil, or_false, forall_eq, true_or, or_true]))
  have kn_11 : Kn_ L κ R J J_6 [rr_ R x 0] := (kn_t kn_rf ex_4.2.2.1 (by simp only [rr_s hb_3]; simp only [List.mem_cons, List.not_mem_nil, or_false, forall_eq, true_or, or_true]))
  refine g_aload_n C 0 dX3_keep_8 rfl rfl ?_
  refine g_getR C K hLx hkx f_3_21 hb_2 dX3_keep_9 ?_
  refine g_aload_n C 2 dX3_keep_12 rfl rfl ?_
  refine g_callVV C K (c_X1_become W9 hb_2L hb_2k hLa1 hka1  hUI_5) hb_2L hb_2k (by decide) rfl v_3_39 rfl ⟨rfl, rfl⟩ ⟨Nat.le_of_ble_eq_true rfl, Nat.le_of_ble_eq_true rfl⟩ (Nat.le_of_ble_eq_true rfl) ⟨Nat.le_of_ble_eq_true rfl, Nat.le_of_ble_eq_true rfl⟩ dX3_keep_13 rfl (st := []) (fun I_13 J_14 h_15 => ?_)
  obtain ⟨hUI_13, hFI_13, hGJ_14⟩ := h_15
  have hF_16 := fq_tr hF_8 hFI_13 (by decide)
  have hG_17 := fq_tr hG_9 hGJ_14 (by decide)
  have kt_18 : Kt_ L κ R I I_13 [rr_ R x 0] := (kt_fq W9 kt_10 hFI_13 (by decide))
  have kn_19 : Kn_ L κ R J J_14 [rr_ R x 0] := (kn_fq W9 kn_11 hGJ_14 (by decide))
  refine g_aload_n C 0 dX3_keep_16 rfl rfl ?_
  refine g_getR C K hLx hkx f_3_28 hb_1 dX3_keep_17 ?_
  refine g_aload_n C 3 dX3_keep_20 rfl rfl ?_
  refine g_callVV C K (c_X7_become W9 hb_1L hb_1k hLa2 hka2  hUI_13) hb_1L hb_1k (by decide) rfl v_3_42 rfl ⟨rfl, rfl⟩ ⟨Nat.le_of_ble_eq_true rfl, Nat.le_of_ble_eq_true rfl⟩ (Nat.le_of_ble_eq_true rfl) ⟨Nat.le_of_ble_eq_true rfl, Nat.le_of_ble_eq_true rfl⟩ dX3_keep_21 rfl (st := []) (fun I_21 J_22 h_23 => ?_)
  obtain ⟨hUI_21, hFI_21, hGJ_22, ex_20⟩ := h_23
  have hF_24 := fq_tr hF_16 hFI_21 (by decide)
  have hG_25 := fq_tr hG_17 hGJ_22 (by decide)
  have kt_26 : Kt_ L κ R I I_21 [rr_ R x 0] := (kt_fq W9 kt_18 hFI_21 (by decide))
  have kn_27 : Kn_ L κ R J J_22 [rr_ R x 0] := (kn_fq W9 kn_19 hGJ_22 (by decide))
  refine g_aload_n C 0 dX3_keep_24 rfl rfl ?_
  refine g_iconst C (v := 1) dX3_keep_25 (by decide) ?_
  refine h_putZ C K hLx hkx f_3_32 p_3_3 (rg_bool (rg_w rc_1 (by decide) (by decide))) dX3_keep_26 (fun I_28 hI_28 => ?_)
  have hU_29 := iv_put W9 hUI_21 hI_28 (ro_o hkx (by decide)) (lo := 0) (hi := 1) (rfl) (rg_w rc_1 (by decide) (by decide)) rfl
  have hF_30 := fq_puto hF_24 hI_28 hkx (by decide) (by decide)
  have kt_31 : Kt_ L κ R I I_28 [rr_ R x 0] := (kt_u (r := 0) W9 kt_26 hI_28 (Or.inl (by rw [hkx]; decide)))
  exact g_vret B K rfl ⟨hU_29, hF_30, hG_25, kt_31, (fun t ht => by rw [hb_3] at ht; cases ht; exact (sc_u W9 hb_3L hb_3k (sc_fq W9 hb_3L hb_3k (sc_fq W9 hb_3L hb_3k ex_4.2.1 hFI_13 (by decide)) hFI_21 (by decide)) hI_28 (by rw [hkx]; decide))), ⟨(kp_s hI_28), fun c hc kc hne => (Eq.trans (by rw [hI_28, u2_b hne]) (fq_at hFI_21 hc kc (by decide) (by decide) (fq_at hFI_13 hc kc (by decide) (by decide) (fq_at hFI_5 hc kc (by decide) (by decide) rfl))))⟩, kn_27, (fun t ht => by rw [hb_3] at ht; cases ht; exact (sn_fq W9 hb_3L hb_3k (sn_fq W9 hb_3L hb_3k ex_4.2.2.2 hGJ_14 (by decide)) hGJ_22 (by decide)))⟩ dX3_keep_29
set_option maxRecDepth 100000 in
set_option maxHeartbeats 8000000 in
theorem c_X11_image {l : Launch} {D : va_G} {cy : Nat → ClassId} {L : List Nat} {κ ln : Nat → Nat} {R : Nat → Nat → Option Nat} {I : Nat → Nat → Int32} {J : Nat → Nat → Int64} {ow : Nat → Nat × Nat} (W9 : ∀ a ∈ L, Shp L κ ln R ow a) {x : Nat} (hLx : x ∈ L) (hkx : κ x = 11) (a0 : Int32) (hU : Iv L κ R ow I) : CtI l yX11_image cX11_image 2 (some .boolean) { frames := 3, cells := 0, slots := 0, locals := 104 } D cy L κ ln R I J [.ref x, .int a0] (fun r I2 J2 => Iv L κ R ow I2 ∧ Fq L κ ow [107, 108, 109, 110, 111, 112, 303, 704, 705, 805, 806, 807, 808, 16100, 16200, 16300, 16400, 16500, 16600, 52000, 52100, 52200, 58100, 58200, 58400] I I2 ∧ Fq L κ ow [58000, 58300] J J2 ∧ Rg 0 1 r ∧ (Kt_ L κ R I I2 [rr_ R (rr_ R (rr_ R x 12) a0.toNatClampNeg) 0]) ∧ (∀ A b0 b1, R x 12 = some A → R A 0 = some b0 → R A 1 = some b1 → b0 ∈ L → b1 ∈ L → κ b0 = 3 → κ b1 = 3 → b0 ≠ b1 → Tm_ a0 (I b0 3) (I b1 3) (I2 b0 3) (I2 b1 3)) ∧ ((a0 = 0 ∨ a0 = 1 → ∀ A b t h, R x 12 = some A → R A a0.toNatClampNeg = some b → R b 0 = some t → R x 1 = some h → Sc_ R I I2 t h) ∧ (¬ a0 = 0 ∧ ¬ a0 = 1 → Kt_ L κ R I I2 [])) ∧ (Kn_ L κ R J J2 [rr_ R (rr_ R (rr_ R x 12) a0.toNatClampNeg) 0]) ∧ ((a0 = 0 ∨ a0 = 1 → ∀ A b t h, R x 12 = some A → R A a0.toNatClampNeg = some b → R b 0 = some t → R x 1 = some h → Sn_ R J J2 t h) ∧ (¬ a0 = 0 ∧ ¬ a0 = 1 → Kn_ L κ R J J2 []))) := by
  refine CtI.of (by decide +kernel) (Nat.le_of_ble_eq_true rfl) ?_
  intro p e s m below meth c B K
  have C := B.1
  have hF : Fq L κ ow [107, 108, 109, 110, 111, 112, 303, 704, 705, 805, 806, 807, 808, 16100, 16200, 16300, 16400, 16500, 16600, 52000, 52100, 52200, 58100, 58200, 58400] I I := fq_rf
  have hG : Fq L κ ow [58000, 58300] J J := fq_rf
  obtain ⟨b_1, hb_1, hb_1L, hb_1k⟩ := shp_o (W9 x hLx) hkx 7 7 rfl (by decide)
  obtain ⟨b_2, hb_2, hb_2L, hb_2k, hb_2n, hb_2o⟩ := shp_a (W9 x hLx) hkx 12 18 2 rfl (by decide)
  obtain ⟨b_3, hb_3, hb_3L, hb_3k⟩ := shp_o (W9 x hLx) hkx 1 8 rfl (by decide)
  obtain ⟨b_4, hb_4, hb_4L, hb_4k⟩ := shp_o (W9 x hLx) hkx 2 1 rfl (by decide)
  refine g_lo (is := [0, 1]) (lo2 := [(0, .ref x), (1, .int a0)]) rfl ?_
  refine g_iload_n C 1 dX11_image_0 rfl rfl ?_
  refine g_if_lt C (tgt := 9) dX11_image_1 (by decide) (fun h_5 => ?_) (fun h_5 => ?_)
  · skip
    have r_6 := lt_l (hi := (-1)) (h_5) (rg_all a0) rc_0 (by decide)
    refine g_iconst C (v := 0) dX11_image_9 (by decide) ?_
    exact g_zret (ty := .boolean) (r := 0) B K rfl (rfl) ⟨hU, hF, hG, rg_w rc_0 (by decide) (by decide), kt_rf, (fun A b0 b1 hA h0 h1 l0 l1 k0 k1 hne => Or.inr (Or.inr ⟨(rg_nek r_6 rc_0 (by decide)), (rg_nek r_6 rc_1 (by decide)), rfl, rfl⟩)), ⟨fun z => absurd z (fun q => q.elim (rg_nek r_6 rc_0 (by decide)) (rg_nek r_6 rc_1 (by decide))), fun _ => kt_rf⟩, kn_rf, ⟨fun z => absurd z (fun q => q.elim (rg_nek r_6 rc_0 (by decide)) (rg_nek r_6 rc_1 (by decide))), fun _ => kn_rf⟩⟩ dX11_image_10
  · skip
    have r_7 := le_r (nlt h_5) rc_0 (rg_all a0)
    refine g_iload_n C 1 dX11_image_4 rfl rfl ?_
    refine g_iconst C (v := 2) dX11_image_5 (by decide) ?_
    refine g_icmp_lt C (tgt := 11) dX11_image_6 (by decide) (fun h_8 => ?_) (fun h_8 => ?_)
    · skip
      have r_9 := lt_l (hi := 1) (h_8) r_7 rc_2 (by decide)
      refine g_aload_n C 0 dX11_image_11 rfl rfl ?_
      refine g_getR C K hLx hkx f_11_89 hb_2 dX11_image_12 ?_
      refine g_iload_n C 1 dX11_image_15 rfl rfl ?_
      obtain ⟨b_10, hb_10, hb_10L, hb_10k⟩ := (W9 b_2 hb_2L).2.2 hb_2k (a0.toNatClampNeg) (ix_lt r_9 (by decide) hb_2n (by decide))
      refine h_aaldI C K hb_2L hb_2k (a0.toNatClampNeg) (rfl) (ix_0 r_9 (by decide)) (ix_lt r_9 (by decide) hb_2n (by decide)) hb_10 dX11_image_16 ?_
      refine g_aload_n C 0 dX11_image_17 rfl rfl ?_
      refine g_getR C K hLx hkx f_11_19 hb_3 dX11_image_18 ?_
      refine g_aload_n C 0 dX11_image_21 rfl rfl ?_
      refine g_getR C K hLx hkx f_11_28 hb_4 dX11_image_22 ?_
      refine g_aload_n C 0 dX11_image_25 rfl rfl ?_
      refine g_getR C K hLx hkx f_11_59 hb_1 dX11_image_26 ?_
      refine g_callVV C K (c_X3_keep W9 hb_10L hb_10k hb_3L hb_3k hb_4L hb_4k hb_1L hb_1k  hU) hb_10L hb_10k (by decide) rfl v_11_379 rfl ⟨rfl, rfl⟩ ⟨Nat.le_of_ble_eq_true rfl, Nat.le_of_ble_eq_true rfl⟩ (Nat.le_of_ble_eq_true rfl) ⟨Nat.le_of_ble_eq_true rfl, Nat.le_of_ble_eq_true rfl⟩ dX11_image_29 rfl (st := []) (fun I_12 J_13 h_14 => ?_)
      obtain ⟨hUI_12, hFI_12, hGJ_13, ex_11⟩ := h_14
      have hF_15 := fq_tr hF hFI_12 (by decide)
      have hG_16 := fq_tr hG hGJ_13 (by decide)
      have kt_17 : Kt_ L κ R I I_12 [rr_ R (rr_ R (rr_ R x 12) a0.toNatClampNeg) 0] := (kt_t kt_rf ex_11.1 (by simp only [rr_s hb_2, rr_s hb_10]; simp only [List.mem_cons, List.not_mem_nil, or_false, forall_eq, true_or, or_true]))
      have kn_18 : Kn_ L κ R J J_13 [rr_ R (rr_ R (rr_ R x 12) a0.toNatClampNeg) 0] := (kn_t kn_rf ex_11.2.2.2.1 (by simp only [rr_s hb_2, rr_s hb_10]; simp only [List.mem_cons, List.not_mem_nil, or_false, forall_eq, true_or, or_true]))
      refine g_iconst C (v := 1) dX11_image_32 (by decide) ?_
      exact g_zret (ty := .boolean) (r := 1) B K rfl (rfl) ⟨hUI_12, hF_15, hG_16, rg_w rc_1 (by decide) (by decide), kt_17, (fun A b0 b1 hA h0 h1 l0 l1 k0 k1 hne => by rw [hb_2] at hA; cases hA; exact tm_c (rg_01 (r_9)) hb_10 h0 h1 hne ex_11.2.2.1.1 ex_11.2.2.1.2 l0 l1 k0 k1), ⟨fun _ A b t h hA hb ht hh => by rw [hb_2] at hA; cases hA; rw [hb_10] at hb; cases hb; rw [hb_3] at hh; cases hh; exact ex_11.2.1 t ht, fun z => absurd (rg_01 (r_9)) (fun q => q.elim z.1 z.2)⟩, kn_18, ⟨fun _ A b t h hA hb ht hh => by rw [hb_2] at hA; cases hA; rw [hb_10] at hb; cases hb; rw [hb_3] at hh; cases hh; exact ex_11.2.2.2.2 t ht, fun z => absurd (rg_01 (r_9)) (fun q => q.elim z.1 z.2)⟩⟩ dX11_image_33
    · skip
      have r_20 := le_r (nlt h_8) rc_2 r_7
      refine g_iconst C (v := 0) dX11_image_9 (by decide) ?_
      exact g_zret (ty := .boolean) (r := 0) B K rfl (rfl) ⟨hU, hF, hG, rg_w rc_0 (by decide) (by decide), kt_rf, (fun A b0 b1 hA h0 h1 l0 l1 k0 k1 hne => Or.inr (Or.inr ⟨(rg_nek r_20 rc_0 (by decide)), (rg_nek r_20 rc_1 (by decide)), rfl, rfl⟩)), ⟨fun z => absurd z (fun q => q.elim (rg_nek r_20 rc_0 (by decide)) (rg_nek r_20 rc_1 (by decide))), fun _ => kt_rf⟩, kn_rf, ⟨fun z => absurd z (fun q => q.elim (rg_nek r_20 rc_0 (by decide)) (rg_nek r_20 rc_1 (by decide))), fun _ => kn_rf⟩⟩ dX11_image_10
set_option maxRecDepth 100000 in
set_option maxHeartbeats 8000000 in
theorem c_X11_restore {l : Launch} {D : va_G} {cy : Nat → ClassId} {L : List Nat} {κ ln : Nat → Nat} {R : Nat → Nat → Option Nat} {I : Nat → Nat → Int32} {J : Nat → Nat → Int64} {ow : Nat → Nat × Nat} (W9 : ∀ a ∈ L, Shp L κ ln R ow a) {x : Nat} (hLx : x ∈ L) (hkx : κ x = 11) (a0 : Int32) (hU : Iv L κ R ow I) : CtI l yX11_restore cX11_restore 2 (some .boolean) { frames := 2, cells := 0, slots := 0, locals := 81 } D cy L κ ln R I J [.ref x, .int a0] (fun r I2 J2 => Iv L κ R ow I2 ∧ Fq L κ ow [107, 108, 109, 110, 111, 112, 501, 704, 705, 805, 806, 807, 808, 16100, 16200, 16300, 16400, 16500, 16600, 52000, 52100, 52200, 58100, 58200, 58400] I I2 ∧ Fq L κ ow [58000, 58300] J J2 ∧ Rg 0 1 r ∧ (Kt_ L κ R I I2 [rr_ R x 1]) ∧ (∀ A b0 b1, R x 12 = some A → R A 0 = some b0 → R A 1 = some b1 → Tq_ a0 (I b0 3) (I b1 3) r) ∧ ((r = 1 → ∀ A b t h, R x 12 = some A → R A a0.toNatClampNeg = some b → R b 0 = some t → R x 1 = some h → Sc_ R I I2 h t) ∧ (¬ r = 1 → Kt_ L κ R I I2 [])) ∧ (Kn_ L κ R J J2 [rr_ R x 1]) ∧ ((r = 1 → ∀ A b t h, R x 12 = some A → R A a0.toNatClampNeg = some b → R b 0 = some t → R x 1 = some h → Sn_ R J J2 h t) ∧ (¬ r = 1 → Kn_ L κ R J J2 []))) := by
  refine CtI.of (by decide +kernel) (Nat.le_of_ble_eq_true rfl) ?_
  intro p e s m below meth c B K
  have C := B.1
  have hF : Fq L κ ow [107, 108, 109, 110, 111, 112, 501, 704, 705, 805, 806, 807, 808, 16100, 16200, 16300, 16400, 16500, 16600, 52000, 52100, 52200, 58100, 58200, 58400] I I := fq_rf
  have hG : Fq L κ ow [58000, 58300] J J := fq_rf
  obtain ⟨b_1, hb_1, hb_1L, hb_1k, hb_1n, hb_1o⟩ := shp_a (W9 x hLx) hkx 12 18 2 rfl (by decide)
  obtain ⟨b_2, hb_2, hb_2L, hb_2k⟩ := shp_o (W9 x hLx) hkx 4 5 rfl (by decide)
  obtain ⟨b_3, hb_3, hb_3L, hb_3k⟩ := shp_o (W9 x hLx) hkx 2 1 rfl (by decide)
  obtain ⟨b_4, hb_4, hb_4L, hb_4k⟩ := shp_o (W9 x hLx) hkx 7 7 rfl (by decide)
  obtain ⟨b_5, hb_5, hb_5L, hb_5k⟩ := shp_o (W9 x hLx) hkx 1 8 rfl (by decide)
  refine g_lo (is := [0, 1]) (lo2 := [(0, .ref x), (1, .int a0)]) rfl ?_
  refine g_iload_n C 1 dX11_restore_0 rfl rfl ?_
  refine g_if_lt C (tgt := 21) dX11_restore_1 (by decide) (fun h_6 => ?_) (fun h_6 => ?_)
  · skip
    have r_7 := lt_l (hi := (-1)) (h_6) (rg_all a0) rc_0 (by decide)
    refine g_iconst C (v := 0) dX11_restore_21 (by decide) ?_
    exact g_zret (ty := .boolean) (r := 0) B K rfl (rfl) ⟨hU, hF, hG, rg_w rc_0 (by decide) (by decide), kt_rf, (fun A b0 b1 hA h0 h1 => Or.inr (Or.inr ⟨(rg_nek r_7 rc_0 (by decide)), (rg_nek r_7 rc_1 (by decide)), rfl⟩)), ⟨fun z => absurd z (by decide), fun _ => kt_rf⟩, kn_rf, ⟨fun z => absurd z (by decide), fun _ => kn_rf⟩⟩ dX11_restore_22
  · skip
    have r_8 := le_r (nlt h_6) rc_0 (rg_all a0)
    refine g_iload_n C 1 dX11_restore_4 rfl rfl ?_
    refine g_iconst C (v := 2) dX11_restore_5 (by decide) ?_
    refine g_icmp_ge C (tgt := 21) dX11_restore_6 (by decide) (fun h_9 => ?_) (fun h_9 => ?_)
    · skip
      have r_10 := le_r (h_9) rc_2 r_8
      refine g_iconst C (v := 0) dX11_restore_21 (by decide) ?_
      exact g_zret (ty := .boolean) (r := 0) B K rfl (rfl) ⟨hU, hF, hG, rg_w rc_0 (by decide) (by decide), kt_rf, (fun A b0 b1 hA h0 h1 => Or.inr (Or.inr ⟨(rg_nek r_10 rc_0 (by decide)), (rg_nek r_10 rc_1 (by decide)), rfl⟩)), ⟨fun z => absurd z (by decide), fun _ => kt_rf⟩, kn_rf, ⟨fun z => absurd z (by decide), fun _ => kn_rf⟩⟩ dX11_restore_22
    · skip
      have r_11 := lt_l (hi := 1) (nle h_9) r_8 rc_2 (by decide)
      refine g_aload_n C 0 dX11_restore_9 rfl rfl ?_
      refine g_getR C K hLx hkx f_11_89 hb_1 dX11_restore_10 ?_
      refine g_iload_n C 1 dX11_restore_13 rfl rfl ?_
      obtain ⟨b_12, hb_12, hb_12L, hb_12k⟩ := (W9 b_1 hb_1L).2.2 hb_1k (a0.toNatClampNeg) (ix_lt r_11 (by decide) hb_1n (by decide))
      refine h_aaldI C K hb_1L hb_1k (a0.toNatClampNeg) (rfl) (ix_0 r_11 (by decide)) (ix_lt r_11 (by decide) hb_1n (by decide)) hb_12 dX11_restore_14 ?_
      obtain ⟨x_13, hx_13, rx_13⟩ := ex_get (I := I) (a := b_12) (j := 3) (lo := 0) (hi := 1) hU.1 hb_12L (ro_o hb_12k (by decide)) rfl
      refine g_getI C K hb_12L hb_12k f_11_383 (v := x_13) hx_13 dX11_restore_15 ?_
      refine g_if_ne C (tgt := 23) dX11_restore_18 (by decide) (fun h_14 => ?_) (fun h_14 => ?_)
      · skip
        have n_15 : ¬ x_13 = 0 := h_14
        have r_16 := ne_lo (lo := 1) n_15 rx_13 rc_0 rfl (by decide)
        refine g_aload_n C 0 dX11_restore_23 rfl rfl ?_
        refine g_getR C K hLx hkx f_11_19 hb_5 dX11_restore_24 ?_
        refine g_aload_n C 0 dX11_restore_27 rfl rfl ?_
        refine g_getR C K hLx hkx f_11_89 hb_1 dX11_restore_28 ?_
        refine g_iload_n C 1 dX11_restore_31 rfl rfl ?_
        obtain ⟨b_17, hb_17, hb_17L, hb_17k⟩ := (W9 b_1 hb_1L).2.2 hb_1k (a0.toNatClampNeg) (ix_lt r_11 (by decide) hb_1n (by decide))
        refine h_aaldI C K hb_1L hb_1k (a0.toNatClampNeg) (rfl) (ix_0 r_11 (by decide)) (ix_lt r_11 (by decide) hb_1n (by decide)) hb_17 dX11_restore_32 ?_
        obtain ⟨b_18, hb_18, hb_18L, hb_18k⟩ := shp_o (W9 b_17 hb_17L) hb_17k 0 8 rfl (by decide)
        refine g_getR C K hb_17L hb_17k f_11_386 hb_18 dX11_restore_33 ?_
        refine g_callVV C K (c_X8_become W9 hb_5L hb_5k hb_18L hb_18k  hU) hb_5L hb_5k (by decide) rfl v_11_120 rfl ⟨rfl, rfl⟩ ⟨Nat.le_of_ble_eq_true rfl, Nat.le_of_ble_eq_true rfl⟩ (Nat.le_of_ble_eq_true rfl) ⟨Nat.le_of_ble_eq_true rfl, Nat.le_of_ble_eq_true rfl⟩ dX11_restore_36 rfl (st := []) (fun I_20 J_21 h_22 => ?_)
        obtain ⟨hUI_20, hFI_20, hGJ_21, ex_19⟩ := h_22
        have hF_23 := fq_tr hF hFI_20 (by decide)
        have hG_24 := fq_tr hG hGJ_21 (by decide)
        have kt_25 : Kt_ L κ R I I_20 [rr_ R x 1] := (kt_t kt_rf ex_19.1 (by simp only [rr_s hb_5]; simp only [List.mem_cons, List.not_mem_nil, or_false, forall_eq, true_or, or_true]))
        have kn_26 : Kn_ L κ R J J_21 [rr_ R x 1] := (kn_t kn_rf ex_19.2.2.1 (by simp only [rr_s hb_5]; simp only [List.mem_cons, List.not_mem_nil, or_false, forall_eq, true_or, or_true]))
        refine g_aload_n C 0 dX11_restore_39 rfl rfl ?_
        refine g_getR C K hLx hkx f_11_28 hb_3 dX11_restore_40 ?_
        refine g_aload_n C 0 dX11_restore_43 rfl rfl ?_
        refine g_getR C K hLx hkx f_11_89 hb_1 dX11_restore_44 ?_
        refine g_iload_n C 1 dX11_restore_47 rfl rfl ?_
        obtain ⟨b_27, hb_27, hb_27L, hb_27k⟩ := (W9 b_1 hb_1L).2.2 hb_1k (a0.toNatClampNeg) (ix_lt r_11 (by decide) hb_1n (by decide))
        refine h_aaldI C K hb_1L hb_1k (a0.toNatClampNeg) (rfl) (ix_0 r_11 (by decide)) (ix_lt r_11 (by decide) hb_1n (by decide)) hb_27 dX11_restore_48 ?_
        obtain ⟨b_28, hb_28, hb_28L, hb_28k⟩ := shp_o (W9 b_27 hb_27L) hb_27k 1 1 rfl (by decide)
        refine g_getR C K hb_27L hb_27k f_11_387 hb_28 dX11_restore_49 ?_
        refine g_callVV C K (c_X1_become W9 hb_3L hb_3k hb_28L hb_28k  hUI_20) hb_3L hb_3k (by decide) rfl v_11_126 rfl ⟨rfl, rfl⟩ ⟨Nat.le_of_ble_eq_true rfl, Nat.le_of_ble_eq_true rfl⟩ (Nat.le_of_ble_eq_true rfl) ⟨Nat.le_of_ble_eq_true rfl, Nat.le_of_ble_eq_true rfl⟩ dX11_restore_52 rfl (st := []) (fun I_30 J_31 h_32 => ?_)
        obtain ⟨hUI_30, hFI_30, hGJ_31⟩ := h_32
        have hF_33 := fq_tr hF_23 hFI_30 (by decide)
        have hG_34 := fq_tr hG_24 hGJ_31 (by decide)
        have kt_35 : Kt_ L κ R I I_30 [rr_ R x 1] := (kt_fq W9 kt_25 hFI_30 (by decide))
        have kn_36 : Kn_ L κ R J J_31 [rr_ R x 1] := (kn_fq W9 kn_26 hGJ_31 (by decide))
        refine g_aload_n C 0 dX11_restore_55 rfl rfl ?_
        refine g_getR C K hLx hkx f_11_59 hb_4 dX11_restore_56 ?_
        refine g_aload_n C 0 dX11_restore_59 rfl rfl ?_
        refine g_getR C K hLx hkx f_11_89 hb_1 dX11_restore_60 ?_
        refine g_iload_n C 1 dX11_restore_63 rfl rfl ?_
        obtain ⟨b_37, hb_37, hb_37L, hb_37k⟩ := (W9 b_1 hb_1L).2.2 hb_1k (a0.toNatClampNeg) (ix_lt r_11 (by decide) hb_1n (by decide))
        refine h_aaldI C K hb_1L hb_1k (a0.toNatClampNeg) (rfl) (ix_0 r_11 (by decide)) (ix_lt r_11 (by decide) hb_1n (by decide)) hb_37 dX11_restore_64 ?_
        obtain ⟨b_38, hb_38, hb_38L, hb_38k⟩ := shp_o (W9 b_37 hb_37L) hb_37k 2 7 rfl (by decide)
        refine g_getR C K hb_37L hb_37k f_11_388 hb_38 dX11_restore_65 ?_
        refine g_callVV C K (c_X7_become W9 hb_4L hb_4k hb_38L hb_38k  hUI_30) hb_4L hb_4k (by decide) rfl v_11_365 rfl ⟨rfl, rfl⟩ ⟨Nat.le_of_ble_eq_true rfl, Nat.le_of_ble_eq_true rfl⟩ (Nat.le_of_ble_eq_true rfl) ⟨Nat.le_of_ble_eq_true rfl, Nat.le_of_ble_eq_true rfl⟩ dX11_restore_68 rfl (st := []) (fun I_40 J_41 h_42 => ?_)
        obtain ⟨hUI_40, hFI_40, hGJ_41, ex_39⟩ := h_42
        have hF_43 := fq_tr hF_33 hFI_40 (by decide)
        have hG_44 := fq_tr hG_34 hGJ_41 (by decide)
        have kt_45 : Kt_ L κ R I I_40 [rr_ R x 1] := (kt_fq W9 kt_35 hFI_40 (by decide))
        have kn_46 : Kn_ L κ R J J_41 [rr_ R x 1] := (kn_fq W9 kn_36 hGJ_41 (by decide))
        refine g_aload_n C 0 dX11_restore_71 rfl rfl ?_
        refine g_getR C K hLx hkx f_11_38 hb_2 dX11_restore_72 ?_
        refine g_callVV C K (c_X5_forget W9 hb_2L hb_2k   hUI_40) hb_2L hb_2k (by decide) rfl v_11_132 rfl ⟨rfl, rfl⟩ ⟨Nat.le_of_ble_eq_true rfl, Nat.le_of_ble_eq_true rfl⟩ (Nat.le_of_ble_eq_true rfl) ⟨Nat.le_of_ble_eq_true rfl, Nat.le_of_ble_eq_true rfl⟩ dX11_restore_75 rfl (st := []) (fun I_48 J_49 h_50 => ?_)
        obtain ⟨hUI_48, hFI_48, hGJ_49⟩ := h_50
        have hF_51 := fq_tr hF_43 hFI_48 (by decide)
        have hG_52 := fq_tr hG_44 hGJ_49 (by decide)
        have kt_53 : Kt_ L κ R I I_48 [rr_ R x 1] := (kt_fq W9 kt_45 hFI_48 (by decide))
        have kn_54 : Kn_ L κ R J J_49 [rr_ R x 1] := (kn_fq W9 kn_46 hGJ_49 (by decide))
        refine g_iconst C (v := 1) dX11_restore_78 (by decide) ?_
        exact g_zret (ty := .boolean) (r := 1) B K rfl (rfl) ⟨hUI_48, hF_51, hG_52, rg_w rc_1 (by decide) (by decide), kt_53, (fun A b0 b1 hA h0 h1 => by rw [hb_1] at hA; cases hA; exact tq_c (rg_01 (r_11)) hb_12 h0 h1 hx_13 (Or.inr ⟨n_15, rfl⟩)), ⟨fun _ A b t h hA hb ht hh => by rw [hb_1] at hA; cases hA; rw [hb_17] at hb; cases hb; rw [hb_18] at ht; cases ht; rw [hb_5] at hh; cases hh; exact (sc_fq W9 hb_5L hb_5k (sc_fq W9 hb_5L hb_5k (sc_fq W9 hb_5L hb_5k ex_19.2.1 hFI_30 (by decide)) hFI_40 (by decide)) hFI_48 (by decide)), fun z => absurd rfl z⟩, kn_54, ⟨fun _ A b t h hA hb ht hh => by rw [hb_1] at hA; cases hA; rw [hb_17] at hb; cases hb; rw [hb_18] at ht; cases ht; rw [hb_5] at hh; cases hh; exact (sn_fq W9 hb_5L hb_5k (sn_fq W9 hb_5L hb_5k (sn_fq W9 hb_5L hb_5k ex_19.2.2.2 hGJ_31 (by decide)) hGJ_41 (by decide)) hGJ_49 (by decide)), fun z => absurd rfl z⟩⟩ dX11_restore_79
      · skip
        have r_55 := (⟨(rx_13).1, (eq_rg (h_14) rc_0).2⟩ : Rg 0 0 x_13)
        refine g_iconst C (v := 0) dX11_restore_21 (by decide) ?_
        exact g_zret (ty := .boolean) (r := 0) B K rfl (rfl) ⟨hU, hF, hG, rg_w rc_0 (by decide) (by decide), kt_rf, (fun A b0 b1 hA h0 h1 => by rw [hb_1] at hA; cases hA; exact tq_c (rg_01 (r_11)) hb_12 h0 h1 hx_13 (Or.inl ⟨rg_1k r_55 rc_0, rfl⟩)), ⟨fun z => absurd z (by decide), fun _ => kt_rf⟩, kn_rf, ⟨fun z => absurd z (by decide), fun _ => kn_rf⟩⟩ dX11_restore_22
