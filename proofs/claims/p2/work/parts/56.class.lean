theorem dX11_image_0 : decode cX11_image 0 = .ok (.iload_n 1, 1) := by decide +kernel
theorem dX11_image_1 : decode cX11_image 1 = .ok (.ifCond .lt 8, 3) := by decide +kernel
theorem dX11_image_4 : decode cX11_image 4 = .ok (.iload_n 1, 1) := by decide +kernel
theorem dX11_image_5 : decode cX11_image 5 = .ok (.iconst 2, 1) := by decide +kernel
theorem dX11_image_6 : decode cX11_image 6 = .ok (.if_icmp .lt 5, 3) := by decide +kernel
theorem dX11_image_9 : decode cX11_image 9 = .ok (.iconst 0, 1) := by decide +kernel
theorem dX11_image_10 : decode cX11_image 10 = .ok (.ireturn, 1) := by decide +kernel
theorem dX11_image_11 : decode cX11_image 11 = .ok (.aload_n 0, 1) := by decide +kernel
theorem dX11_image_12 : decode cX11_image 12 = .ok (.getfield 89, 3) := by decide +kernel
theorem dX11_image_15 : decode cX11_image 15 = .ok (.iload_n 1, 1) := by decide +kernel
theorem dX11_image_16 : decode cX11_image 16 = .ok (.aaload, 1) := by decide +kernel
theorem dX11_image_17 : decode cX11_image 17 = .ok (.aload_n 0, 1) := by decide +kernel
theorem dX11_image_18 : decode cX11_image 18 = .ok (.getfield 19, 3) := by decide +kernel
theorem dX11_image_21 : decode cX11_image 21 = .ok (.aload_n 0, 1) := by decide +kernel
theorem dX11_image_22 : decode cX11_image 22 = .ok (.getfield 28, 3) := by decide +kernel
theorem dX11_image_25 : decode cX11_image 25 = .ok (.aload_n 0, 1) := by decide +kernel
theorem dX11_image_26 : decode cX11_image 26 = .ok (.getfield 59, 3) := by decide +kernel
theorem dX11_image_29 : decode cX11_image 29 = .ok (.invokevirtual 379, 3) := by decide +kernel
theorem dX11_image_32 : decode cX11_image 32 = .ok (.iconst 1, 1) := by decide +kernel
theorem dX11_image_33 : decode cX11_image 33 = .ok (.ireturn, 1) := by decide +kernel
theorem dX11_restore_0 : decode cX11_restore 0 = .ok (.iload_n 1, 1) := by decide +kernel
theorem dX11_restore_1 : decode cX11_restore 1 = .ok (.ifCond .lt 20, 3) := by decide +kernel
theorem dX11_restore_4 : decode cX11_restore 4 = .ok (.iload_n 1, 1) := by decide +kernel
theorem dX11_restore_5 : decode cX11_restore 5 = .ok (.iconst 2, 1) := by decide +kernel
theorem dX11_restore_6 : decode cX11_restore 6 = .ok (.if_icmp .ge 15, 3) := by decide +kernel
theorem dX11_restore_9 : decode cX11_restore 9 = .ok (.aload_n 0, 1) := by decide +kernel
theorem dX11_restore_10 : decode cX11_restore 10 = .ok (.getfield 89, 3) := by decide +kernel
theorem dX11_restore_13 : decode cX11_restore 13 = .ok (.iload_n 1, 1) := by decide +kernel
theorem dX11_restore_14 : decode cX11_restore 14 = .ok (.aaload, 1) := by decide +kernel
theorem dX11_restore_15 : decode cX11_restore 15 = .ok (.getfield 383, 3) := by decide +kernel
theorem dX11_restore_18 : decode cX11_restore 18 = .ok (.ifCond .ne 5, 3) := by decide +kernel
theorem dX11_restore_21 : decode cX11_restore 21 = .ok (.iconst 0, 1) := by decide +kernel
theorem dX11_restore_22 : decode cX11_restore 22 = .ok (.ireturn, 1) := by decide +kernel
theorem dX11_restore_23 : decode cX11_restore 23 = .ok (.aload_n 0, 1) := by decide +kernel
theorem dX11_restore_24 : decode cX11_restore 24 = .ok (.getfield 19, 3) := by decide +kernel
theorem dX11_restore_27 : decode cX11_restore 27 = .ok (.aload_n 0, 1) := by decide +kernel
theorem dX11_restore_28 : decode cX11_restore 28 = .ok (.getfield 89, 3) := by decide +kernel
theorem dX11_restore_31 : decode cX11_restore 31 = .ok (.iload_n 1, 1) := by decide +kernel
theorem dX11_restore_32 : decode cX11_restore 32 = .ok (.aaload, 1) := by decide +kernel
theorem dX11_restore_33 : decode cX11_restore 33 = .ok (.getfield 386, 3) := by decide +kernel
theorem dX11_restore_36 : decode cX11_restore 36 = .ok (.invokevirtual 120, 3) := by decide +kernel
theorem dX11_restore_39 : decode cX11_restore 39 = .ok (.aload_n 0, 1) := by decide +kernel
theorem dX11_restore_40 : decode cX11_restore 40 = .ok (.getfield 28, 3) := by decide +kernel
theorem dX11_restore_43 : decode cX11_restore 43 = .ok (.aload_n 0, 1) := by decide +kernel
theorem dX11_restore_44 : decode cX11_restore 44 = .ok (.getfield 89, 3) := by decide +kernel
theorem dX11_restore_47 : decode cX11_restore 47 = .ok (.iload_n 1, 1) := by decide +kernel
theorem dX11_restore_48 : decode cX11_restore 48 = .ok (.aaload, 1) := by decide +kernel
theorem dX11_restore_49 : decode cX11_restore 49 = .ok (.getfield 387, 3) := by decide +kernel
theorem dX11_restore_52 : decode cX11_restore 52 = .ok (.invokevirtual 126, 3) := by decide +kernel
theorem dX11_restore_55 : decode cX11_restore 55 = .ok (.aload_n 0, 1) := by decide +kernel
theorem dX11_restore_56 : decode cX11_restore 56 = .ok (.getfield 59, 3) := by decide +kernel
theorem dX11_restore_59 : decode cX11_restore 59 = .ok (.aload_n 0, 1) := by decide +kernel
theorem dX11_restore_60 : decode cX11_restore 60 = .ok (.getfield 89, 3) := by decide +kernel
theorem dX11_restore_63 : decode cX11_restore 63 = .ok (.iload_n 1, 1) := by decide +kernel
theorem dX11_restore_64 : decode cX11_restore 64 = .ok (.aaload, 1) := by decide +kernel
theorem dX11_restore_65 : decode cX11_restore 65 = .ok (.getfield 388, 3) := by decide +kernel
theorem dX11_restore_68 : decode cX11_restore 68 = .ok (.invokevirtual 365, 3) := by decide +kernel
theorem dX11_restore_71 : decode cX11_restore 71 = .ok (.aload_n 0, 1) := by decide +kernel
theorem dX11_restore_72 : decode cX11_restore 72 = .ok (.getfield 38, 3) := by decide +kernel
theorem dX11_restore_75 : decode cX11_restore 75 = .ok (.invokevirtual 132, 3) := by decide +kernel
theorem dX11_restore_78 : decode cX11_restore 78 = .ok (.iconst 1, 1) := by decide +kernel
theorem dX11_restore_79 : decode cX11_restore 79 = .ok (.ireturn, 1) := by decide +kernel
theorem dX3_keep_0 : decode cX3_keep 0 = .ok (.aload_n 0, 1) := by decide +kernel
theorem dX3_keep_1 : decode cX3_keep 1 = .ok (.getfield 10, 3) := by decide +kernel
theorem dX3_keep_4 : decode cX3_keep 4 = .ok (.aload_n 1, 1) := by decide +kernel
theorem dX3_keep_5 : decode cX3_keep 5 = .ok (.invokevirtual 36, 3) := by decide +kernel
theorem dX3_keep_8 : decode cX3_keep 8 = .ok (.aload_n 0, 1) := by decide +kernel
theorem dX3_keep_9 : decode cX3_keep 9 = .ok (.getfield 21, 3) := by decide +kernel
theorem dX3_keep_12 : decode cX3_keep 12 = .ok (.aload_n 2, 1) := by decide +kernel
theorem dX3_keep_13 : decode cX3_keep 13 = .ok (.invokevirtual 39, 3) := by decide +kernel
theorem dX3_keep_16 : decode cX3_keep 16 = .ok (.aload_n 0, 1) := by decide +kernel
theorem dX3_keep_17 : decode cX3_keep 17 = .ok (.getfield 28, 3) := by decide +kernel
theorem dX3_keep_20 : decode cX3_keep 20 = .ok (.aload_n 3, 1) := by decide +kernel
theorem dX3_keep_21 : decode cX3_keep 21 = .ok (.invokevirtual 42, 3) := by decide +kernel
theorem dX3_keep_24 : decode cX3_keep 24 = .ok (.aload_n 0, 1) := by decide +kernel
theorem dX3_keep_25 : decode cX3_keep 25 = .ok (.iconst 1, 1) := by decide +kernel
theorem dX3_keep_26 : decode cX3_keep 26 = .ok (.putfield 32, 3) := by decide +kernel
theorem dX3_keep_29 : decode cX3_keep 29 = .ok (.return_, 1) := by decide +kernel
set_option maxRecDepth 100000 in
set_option maxHeartbeats 8000000 in
theorem c_X3_keep {l : Launch} {D : va_G} {cy : Nat → ClassId} {L : List Nat} {κ ln : Nat → Nat} {R : Nat → Nat → Option Nat} {I : Nat → Nat → Int32} {J : Nat → Nat → Int64} {ow : Nat → Nat × Nat} (W9 : ∀ a ∈ L, Shp L κ ln R ow a) {x : Nat} (hLx : x ∈ L) (hkx : κ x = 3) {a0 : Nat} (hLa0 : a0 ∈ L) (hka0 : κ a0 = 8) {a1 : Nat} (hLa1 : a1 ∈ L) (hka1 : κ a1 = 1) {a2 : Nat} (hLa2 : a2 ∈ L) (hka2 : κ a2 = 7) (hU : Iv L κ R ow I) : CtV l yX3_keep cX3_keep 4 none { frames := 2, cells := 0, slots := 0, locals := 81 } D cy L κ ln R I J [.ref x, .ref a0, .ref a1, .ref a2] (fun I2 J2 => Iv L κ R ow I2 ∧ Fq L κ ow [107, 108, 109, 110, 111, 112, 303, 704, 705, 805, 806, 807, 808, 16100, 16200, 16300, 16400, 16500, 16600, 52000, 52100, 52200, 58100, 58200, 58400] I I2 ∧ Fq L κ ow [58000, 58300] J J2) := by
  refine CtV.of (by decide +kernel) (Nat.le_of_ble_eq_true rfl) ?_
  intro p e s m below meth c B K
  have C := B.1
  have hF : Fq L κ ow [107, 108, 109, 110, 111, 112, 303, 704, 705, 805, 806, 807, 808, 16100, 16200, 16300, 16400, 16500, 16600, 52000, 52100, 52200, 58100, 58200, 58400] I I := fq_rf
  have hG : Fq L κ ow [58000, 58300] J J := fq_rf
  obtain ⟨b_523869, hb_523869, hb_523869L, hb_523869k⟩ := shp_o (W9 x hLx) hkx 0 8 rfl (by decide)
  obtain ⟨b_523870, hb_523870, hb_523870L, hb_523870k⟩ := shp_o (W9 x hLx) hkx 1 1 rfl (by decide)
  obtain ⟨b_523871, hb_523871, hb_523871L, hb_523871k⟩ := shp_o (W9 x hLx) hkx 2 7 rfl (by decide)
  refine g_lo (is := [0, 1, 2, 3]) (lo2 := [(0, .ref x), (1, .ref a0), (2, .ref a1), (3, .ref a2)]) rfl ?_
  refine g_aload_n C 0 dX3_keep_0 rfl rfl ?_
  refine g_getR C K hLx hkx f_3_10 hb_523869 dX3_keep_1 ?_
  refine g_aload_n C 1 dX3_keep_4 rfl rfl ?_
  refine g_callVV C K (c_X8_become W9 hb_523869L hb_523869k hLa0 hka0  hU) hb_523869L hb_523869k (by decide) rfl v_3_36 rfl ⟨rfl, rfl⟩ ⟨Nat.le_of_ble_eq_true rfl, Nat.le_of_ble_eq_true rfl⟩ (Nat.le_of_ble_eq_true rfl) ⟨Nat.le_of_ble_eq_true rfl, Nat.le_of_ble_eq_true rfl⟩ dX3_keep_5 rfl (st := []) (fun I_523873 J_523874 h_523875 => ?_)
  obtain ⟨hUI_523873, hFI_523873, hGJ_523874⟩ := h_523875
  have hF_523876 := fq_tr hF hFI_523873 (by decide)
  have hG_523877 := fq_tr hG hGJ_523874 (by decide)
  refine g_aload_n C 0 dX3_keep_8 rfl rfl ?_
  refine g_getR C K hLx hkx f_3_21 hb_523870 dX3_keep_9 ?_
  refine g_aload_n C 2 dX3_keep_12 rfl rfl ?_
  refine g_callVV C K (c_X1_become W9 hb_523870L hb_523870k hLa1 hka1  hUI_523873) hb_523870L hb_523870k (by decide) rfl v_3_39 rfl ⟨rfl, rfl⟩ ⟨Nat.le_of_ble_eq_true rfl, Nat.le_of_ble_eq_true rfl⟩ (Nat.le_of_ble_eq_true rfl) ⟨Nat.le_of_ble_eq_true rfl, Nat.le_of_ble_eq_true rfl⟩ dX3_keep_13 rfl (st := []) (fun I_523879 J_523880 h_523881 => ?_)
  obtain ⟨hUI_523879, hFI_523879, hGJ_523880⟩ := h_523881
  have hF_523882 := fq_tr hF_523876 hFI_523879 (by decide)
  have hG_523883 := fq_tr hG_523877 hGJ_523880 (by decide)
  refine g_aload_n C 0 dX3_keep_16 rfl rfl ?_
  refine g_getR C K hLx hkx f_3_28 hb_523871 dX3_keep_17 ?_
  refine g_aload_n C 3 dX3_keep_20 rfl rfl ?_
  refine g_callVV C K (c_X7_become W9 hb_523871L hb_523871k hLa2 hka2  hUI_523879) hb_523871L hb_523871k (by decide) rfl v_3_42 rfl ⟨rfl, rfl⟩ ⟨Nat.le_of_ble_eq_true rfl, Nat.le_of_ble_eq_true rfl⟩ (Nat.le_of_ble_eq_true rfl) ⟨Nat.le_of_ble_eq_true rfl, Nat.le_of_ble_eq_true rfl⟩ dX3_keep_21 rfl (st := []) (fun I_523885 J_523886 h_523887 => ?_)
  obtain ⟨hUI_523885, hFI_523885, hGJ_523886⟩ := h_523887
  have hF_523888 := fq_tr hF_523882 hFI_523885 (by decide)
  have hG_523889 := fq_tr hG_523883 hGJ_523886 (by decide)
  refine g_aload_n C 0 dX3_keep_24 rfl rfl ?_
  refine g_iconst C (v := 1) dX3_keep_25 (by decide) ?_
  refine h_putZ C K hLx hkx f_3_32 p_3_3 (rg_bool (rg_w rc_1 (by decide) (by decide))) dX3_keep_26 (fun I_523890 hI_523890 => ?_)
  have hU_523891 := iv_put W9 hUI_523885 hI_523890 (ro_o hkx (by decide)) (lo := 0) (hi := 1) (rfl) (rg_w rc_1 (by decide) (by decide)) rfl
  have hF_523892 := fq_puto hF_523888 hI_523890 hkx (by decide) (by decide)
  exact g_vret B K rfl ⟨hU_523891, hF_523892, hG_523889⟩ dX3_keep_29
set_option maxRecDepth 100000 in
set_option maxHeartbeats 8000000 in
theorem c_X11_image {l : Launch} {D : va_G} {cy : Nat → ClassId} {L : List Nat} {κ ln : Nat → Nat} {R : Nat → Nat → Option Nat} {I : Nat → Nat → Int32} {J : Nat → Nat → Int64} {ow : Nat → Nat × Nat} (W9 : ∀ a ∈ L, Shp L κ ln R ow a) {x : Nat} (hLx : x ∈ L) (hkx : κ x = 11) (a0 : Int32) (hU : Iv L κ R ow I) : CtI l yX11_image cX11_image 2 (some .boolean) { frames := 3, cells := 0, slots := 0, locals := 104 } D cy L κ ln R I J [.ref x, .int a0] (fun r I2 J2 => Iv L κ R ow I2 ∧ Fq L κ ow [107, 108, 109, 110, 111, 112, 303, 704, 705, 805, 806, 807, 808, 16100, 16200, 16300, 16400, 16500, 16600, 52000, 52100, 52200, 58100, 58200, 58400] I I2 ∧ Fq L κ ow [58000, 58300] J J2 ∧ Rg 0 1 r) := by
  refine CtI.of (by decide +kernel) (Nat.le_of_ble_eq_true rfl) ?_
  intro p e s m below meth c B K
  have C := B.1
  have hF : Fq L κ ow [107, 108, 109, 110, 111, 112, 303, 704, 705, 805, 806, 807, 808, 16100, 16200, 16300, 16400, 16500, 16600, 52000, 52100, 52200, 58100, 58200, 58400] I I := fq_rf
  have hG : Fq L κ ow [58000, 58300] J J := fq_rf
  obtain ⟨b_523927, hb_523927, hb_523927L, hb_523927k⟩ := shp_o (W9 x hLx) hkx 2 1 rfl (by decide)
  obtain ⟨b_523928, hb_523928, hb_523928L, hb_523928k⟩ := shp_o (W9 x hLx) hkx 7 7 rfl (by decide)
  obtain ⟨b_523929, hb_523929, hb_523929L, hb_523929k, hb_523929n, hb_523929o⟩ := shp_a (W9 x hLx) hkx 12 18 2 rfl (by decide)
  obtain ⟨b_523930, hb_523930, hb_523930L, hb_523930k⟩ := shp_o (W9 x hLx) hkx 1 8 rfl (by decide)
  refine g_lo (is := [0, 1]) (lo2 := [(0, .ref x), (1, .int a0)]) rfl ?_
  refine g_iload_n C 1 dX11_image_0 rfl rfl ?_
  refine g_if_lt C (tgt := 9) dX11_image_1 (by decide) (fun h_523931 => ?_) (fun h_523931 => ?_)
  · skip
    have r_523932 := lt_l (hi := (-1)) (h_523931) (rg_all a0) rc_0 (by decide)
    refine g_iconst C (v := 0) dX11_image_9 (by decide) ?_
    exact g_zret (ty := .boolean) (r := 0) B K rfl (rfl) ⟨hU, hF, hG, rg_w rc_0 (by decide) (by decide)⟩ dX11_image_10
  · skip
    have r_523933 := le_r (nlt h_523931) rc_0 (rg_all a0)
    refine g_iload_n C 1 dX11_image_4 rfl rfl ?_
    refine g_iconst C (v := 2) dX11_image_5 (by decide) ?_
    refine g_icmp_lt C (tgt := 11) dX11_image_6 (by decide) (fun h_523934 => ?_) (fun h_523934 => ?_)
    · skip
      have r_523935 := lt_l (hi := 1) (h_523934) r_523933 rc_2 (by decide)
      refine g_aload_n C 0 dX11_image_11 rfl rfl ?_
      refine g_getR C K hLx hkx f_11_89 hb_523929 dX11_image_12 ?_
      refine g_iload_n C 1 dX11_image_15 rfl rfl ?_
      obtain ⟨b_523936, hb_523936, hb_523936L, hb_523936k⟩ := (W9 b_523929 hb_523929L).2.2 hb_523929k (a0.toNatClampNeg) (ix_lt r_523935 (by decide) hb_523929n (by decide))
      refine h_aaldI C K hb_523929L hb_523929k (a0.toNatClampNeg) (rfl) (ix_0 r_523935 (by decide)) (ix_lt r_523935 (by decide) hb_523929n (by decide)) hb_523936 dX11_image_16 ?_
      refine g_aload_n C 0 dX11_image_17 rfl rfl ?_
      refine g_getR C K hLx hkx f_11_19 hb_523930 dX11_image_18 ?_
      refine g_aload_n C 0 dX11_image_21 rfl rfl ?_
      refine g_getR C K hLx hkx f_11_28 hb_523927 dX11_image_22 ?_
      refine g_aload_n C 0 dX11_image_25 rfl rfl ?_
      refine g_getR C K hLx hkx f_11_59 hb_523928 dX11_image_26 ?_
      refine g_callVV C K (c_X3_keep W9 hb_523936L hb_523936k hb_523930L hb_523930k hb_523927L hb_523927k hb_523928L hb_523928k  hU) hb_523936L hb_523936k (by decide) rfl v_11_379 rfl ⟨rfl, rfl⟩ ⟨Nat.le_of_ble_eq_true rfl, Nat.le_of_ble_eq_true rfl⟩ (Nat.le_of_ble_eq_true rfl) ⟨Nat.le_of_ble_eq_true rfl, Nat.le_of_ble_eq_true rfl⟩ dX11_image_29 rfl (st := []) (fun I_523938 J_523939 h_523940 => ?_)
      obtain ⟨hUI_523938, hFI_523938, hGJ_523939⟩ := h_523940
      have hF_523941 := fq_tr hF hFI_523938 (by decide)
      have hG_523942 := fq_tr hG hGJ_523939 (by decide)
      refine g_iconst C (v := 1) dX11_image_32 (by decide) ?_
      exact g_zret (ty := .boolean) (r := 1) B K rfl (rfl) ⟨hUI_523938, hF_523941, hG_523942, rg_w rc_1 (by decide) (by decide)⟩ dX11_image_33
    · skip
      have r_523943 := le_r (nlt h_523934) rc_2 r_523933
      refine g_iconst C (v := 0) dX11_image_9 (by decide) ?_
      exact g_zret (ty := .boolean) (r := 0) B K rfl (rfl) ⟨hU, hF, hG, rg_w rc_0 (by decide) (by decide)⟩ dX11_image_10
set_option maxRecDepth 100000 in
set_option maxHeartbeats 8000000 in
theorem c_X11_restore {l : Launch} {D : va_G} {cy : Nat → ClassId} {L : List Nat} {κ ln : Nat → Nat} {R : Nat → Nat → Option Nat} {I : Nat → Nat → Int32} {J : Nat → Nat → Int64} {ow : Nat → Nat × Nat} (W9 : ∀ a ∈ L, Shp L κ ln R ow a) {x : Nat} (hLx : x ∈ L) (hkx : κ x = 11) (a0 : Int32) (hU : Iv L κ R ow I) : CtI l yX11_restore cX11_restore 2 (some .boolean) { frames := 2, cells := 0, slots := 0, locals := 81 } D cy L κ ln R I J [.ref x, .int a0] (fun r I2 J2 => Iv L κ R ow I2 ∧ Fq L κ ow [107, 108, 109, 110, 111, 112, 501, 704, 705, 805, 806, 807, 808, 16100, 16200, 16300, 16400, 16500, 16600, 52000, 52100, 52200, 58100, 58200, 58400] I I2 ∧ Fq L κ ow [58000, 58300] J J2 ∧ Rg 0 1 r) := by
  refine CtI.of (by decide +kernel) (Nat.le_of_ble_eq_true rfl) ?_
  intro p e s m below meth c B K
  have C := B.1
  have hF : Fq L κ ow [107, 108, 109, 110, 111, 112, 501, 704, 705, 805, 806, 807, 808, 16100, 16200, 16300, 16400, 16500, 16600, 52000, 52100, 52200, 58100, 58200, 58400] I I := fq_rf
  have hG : Fq L κ ow [58000, 58300] J J := fq_rf
  obtain ⟨b_524038, hb_524038, hb_524038L, hb_524038k⟩ := shp_o (W9 x hLx) hkx 4 5 rfl (by decide)
  obtain ⟨b_524039, hb_524039, hb_524039L, hb_524039k⟩ := shp_o (W9 x hLx) hkx 1 8 rfl (by decide)
  obtain ⟨b_524040, hb_524040, hb_524040L, hb_524040k⟩ := shp_o (W9 x hLx) hkx 2 1 rfl (by decide)
  obtain ⟨b_524041, hb_524041, hb_524041L, hb_524041k⟩ := shp_o (W9 x hLx) hkx 7 7 rfl (by decide)
  obtain ⟨b_524042, hb_524042, hb_524042L, hb_524042k, hb_524042n, hb_524042o⟩ := shp_a (W9 x hLx) hkx 12 18 2 rfl (by decide)
  refine g_lo (is := [0, 1]) (lo2 := [(0, .ref x), (1, .int a0)]) rfl ?_
  refine g_iload_n C 1 dX11_restore_0 rfl rfl ?_
  refine g_if_lt C (tgt := 21) dX11_restore_1 (by decide) (fun h_524043 => ?_) (fun h_524043 => ?_)
  · skip
    have r_524044 := lt_l (hi := (-1)) (h_524043) (rg_all a0) rc_0 (by decide)
    refine g_iconst C (v := 0) dX11_restore_21 (by decide) ?_
    exact g_zret (ty := .boolean) (r := 0) B K rfl (rfl) ⟨hU, hF, hG, rg_w rc_0 (by decide) (by decide)⟩ dX11_restore_22
  · skip
    have r_524045 := le_r (nlt h_524043) rc_0 (rg_all a0)
    refine g_iload_n C 1 dX11_restore_4 rfl rfl ?_
    refine g_iconst C (v := 2) dX11_restore_5 (by decide) ?_
    refine g_icmp_ge C (tgt := 21) dX11_restore_6 (by decide) (fun h_524046 => ?_) (fun h_524046 => ?_)
    · skip
      have r_524047 := le_r (h_524046) rc_2 r_524045
      refine g_iconst C (v := 0) dX11_restore_21 (by decide) ?_
      exact g_zret (ty := .boolean) (r := 0) B K rfl (rfl) ⟨hU, hF, hG, rg_w rc_0 (by decide) (by decide)⟩ dX11_restore_22
    · skip
      have r_524048 := lt_l (hi := 1) (nle h_524046) r_524045 rc_2 (by decide)
      refine g_aload_n C 0 dX11_restore_9 rfl rfl ?_
      refine g_getR C K hLx hkx f_11_89 hb_524042 dX11_restore_10 ?_
      refine g_iload_n C 1 dX11_restore_13 rfl rfl ?_
      obtain ⟨b_524049, hb_524049, hb_524049L, hb_524049k⟩ := (W9 b_524042 hb_524042L).2.2 hb_524042k (a0.toNatClampNeg) (ix_lt r_524048 (by decide) hb_524042n (by decide))
      refine h_aaldI C K hb_524042L hb_524042k (a0.toNatClampNeg) (rfl) (ix_0 r_524048 (by decide)) (ix_lt r_524048 (by decide) hb_524042n (by decide)) hb_524049 dX11_restore_14 ?_
      obtain ⟨x_524050, hx_524050, rx_524050⟩ := ex_get (I := I) (a := b_524049) (j := 3) (lo := 0) (hi := 1) hU.1 hb_524049L (ro_o hb_524049k (by decide)) rfl
      refine g_getI C K hb_524049L hb_524049k f_11_383 (v := x_524050) hx_524050 dX11_restore_15 ?_
      refine g_if_ne C (tgt := 23) dX11_restore_18 (by decide) (fun h_524051 => ?_) (fun h_524051 => ?_)
      · skip
        have n_524052 : ¬ x_524050 = 0 := h_524051
        have r_524053 := ne_lo (lo := 1) n_524052 rx_524050 rc_0 rfl (by decide)
        refine g_aload_n C 0 dX11_restore_23 rfl rfl ?_
        refine g_getR C K hLx hkx f_11_19 hb_524039 dX11_restore_24 ?_
        refine g_aload_n C 0 dX11_restore_27 rfl rfl ?_
        refine g_getR C K hLx hkx f_11_89 hb_524042 dX11_restore_28 ?_
        refine g_iload_n C 1 dX11_restore_31 rfl rfl ?_
        obtain ⟨b_524054, hb_524054, hb_524054L, hb_524054k⟩ := (W9 b_524042 hb_524042L).2.2 hb_524042k (a0.toNatClampNeg) (ix_lt r_524048 (by decide) hb_524042n (by decide))
        refine h_aaldI C K hb_524042L hb_524042k (a0.toNatClampNeg) (rfl) (ix_0 r_524048 (by decide)) (ix_lt r_524048 (by decide) hb_524042n (by decide)) hb_524054 dX11_restore_32 ?_
        obtain ⟨b_524055, hb_524055, hb_524055L, hb_524055k⟩ := shp_o (W9 b_524054 hb_524054L) hb_524054k 0 8 rfl (by decide)
        refine g_getR C K hb_524054L hb_524054k f_11_386 hb_524055 dX11_restore_33 ?_
        refine g_callVV C K (c_X8_become W9 hb_524039L hb_524039k hb_524055L hb_524055k  hU) hb_524039L hb_524039k (by decide) rfl v_11_120 rfl ⟨rfl, rfl⟩ ⟨Nat.le_of_ble_eq_true rfl, Nat.le_of_ble_eq_true rfl⟩ (Nat.le_of_ble_eq_true rfl) ⟨Nat.le_of_ble_eq_true rfl, Nat.le_of_ble_eq_true rfl⟩ dX11_restore_36 rfl (st := []) (fun I_524057 J_524058 h_524059 => ?_)
        obtain ⟨hUI_524057, hFI_524057, hGJ_524058⟩ := h_524059
        have hF_524060 := fq_tr hF hFI_524057 (by decide)
        have hG_524061 := fq_tr hG hGJ_524058 (by decide)
        refine g_aload_n C 0 dX11_restore_39 rfl rfl ?_
        refine g_getR C K hLx hkx f_11_28 hb_524040 dX11_restore_40 ?_
        refine g_aload_n C 0 dX11_restore_43 rfl rfl ?_
        refine g_getR C K hLx hkx f_11_89 hb_524042 dX11_restore_44 ?_
        refine g_iload_n C 1 dX11_restore_47 rfl rfl ?_
        obtain ⟨b_524062, hb_524062, hb_524062L, hb_524062k⟩ := (W9 b_524042 hb_524042L).2.2 hb_524042k (a0.toNatClampNeg) (ix_lt r_524048 (by decide) hb_524042n (by decide))
        refine h_aaldI C K hb_524042L hb_524042k (a0.toNatClampNeg) (rfl) (ix_0 r_524048 (by decide)) (ix_lt r_524048 (by decide) hb_524042n (by decide)) hb_524062 dX11_restore_48 ?_
        obtain ⟨b_524063, hb_524063, hb_524063L, hb_524063k⟩ := shp_o (W9 b_524062 hb_524062L) hb_524062k 1 1 rfl (by decide)
        refine g_getR C K hb_524062L hb_524062k f_11_387 hb_524063 dX11_restore_49 ?_
        refine g_callVV C K (c_X1_become W9 hb_524040L hb_524040k hb_524063L hb_524063k  hUI_524057) hb_524040L hb_524040k (by decide) rfl v_11_126 rfl ⟨rfl, rfl⟩ ⟨Nat.le_of_ble_eq_true rfl, Nat.le_of_ble_eq_true rfl⟩ (Nat.le_of_ble_eq_true rfl) ⟨Nat.le_of_ble_eq_true rfl, Nat.le_of_ble_eq_true rfl⟩ dX11_restore_52 rfl (st := []) (fun I_524065 J_524066 h_524067 => ?_)
        obtain ⟨hUI_524065, hFI_524065, hGJ_524066⟩ := h_524067
        have hF_524068 := fq_tr hF_524060 hFI_524065 (by decide)
        have hG_524069 := fq_tr hG_524061 hGJ_524066 (by decide)
        refine g_aload_n C 0 dX11_restore_55 rfl rfl ?_
        refine g_getR C K hLx hkx f_11_59 hb_524041 dX11_restore_56 ?_
        refine g_aload_n C 0 dX11_restore_59 rfl rfl ?_
        refine g_getR C K hLx hkx f_11_89 hb_524042 dX11_restore_60 ?_
        refine g_iload_n C 1 dX11_restore_63 rfl rfl ?_
        obtain ⟨b_524070, hb_524070, hb_524070L, hb_524070k⟩ := (W9 b_524042 hb_524042L).2.2 hb_524042k (a0.toNatClampNeg) (ix_lt r_524048 (by decide) hb_524042n (by decide))
        refine h_aaldI C K hb_524042L hb_524042k (a0.toNatClampNeg) (rfl) (ix_0 r_524048 (by decide)) (ix_lt r_524048 (by decide) hb_524042n (by decide)) hb_524070 dX11_restore_64 ?_
        obtain ⟨b_524071, hb_524071, hb_524071L, hb_524071k⟩ := shp_o (W9 b_524070 hb_524070L) hb_524070k 2 7 rfl (by decide)
        refine g_getR C K hb_524070L hb_524070k f_11_388 hb_524071 dX11_restore_65 ?_
        refine g_callVV C K (c_X7_become W9 hb_524041L hb_524041k hb_524071L hb_524071k  hUI_524065) hb_524041L hb_524041k (by decide) rfl v_11_365 rfl ⟨rfl, rfl⟩ ⟨Nat.le_of_ble_eq_true rfl, Nat.le_of_ble_eq_true rfl⟩ (Nat.le_of_ble_eq_true rfl) ⟨Nat.le_of_ble_eq_true rfl, Nat.le_of_ble_eq_true rfl⟩ dX11_restore_68 rfl (st := []) (fun I_524073 J_524074 h_524075 => ?_)
        obtain ⟨hUI_524073, hFI_524073, hGJ_524074⟩ := h_524075
        have hF_524076 := fq_tr hF_524068 hFI_524073 (by decide)
        have hG_524077 := fq_tr hG_524069 hGJ_524074 (by decide)
        refine g_aload_n C 0 dX11_restore_71 rfl rfl ?_
        refine g_getR C K hLx hkx f_11_38 hb_524038 dX11_restore_72 ?_
        refine g_callVV C K (c_X5_forget W9 hb_524038L hb_524038k   hUI_524073) hb_524038L hb_524038k (by decide) rfl v_11_132 rfl ⟨rfl, rfl⟩ ⟨Nat.le_of_ble_eq_true rfl, Nat.le_of_ble_eq_true rfl⟩ (Nat.le_of_ble_eq_true rfl) ⟨Nat.le_of_ble_eq_true rfl, Nat.le_of_ble_eq_true rfl⟩ dX11_restore_75 rfl (st := []) (fun I_524079 J_524080 h_524081 => ?_)
        obtain ⟨hUI_524079, hFI_524079, hGJ_524080⟩ := h_524081
        have hF_524082 := fq_tr hF_524076 hFI_524079 (by decide)
        have hG_524083 := fq_tr hG_524077 hGJ_524080 (by decide)
        refine g_iconst C (v := 1) dX11_restore_78 (by decide) ?_
        exact g_zret (ty := .boolean) (r := 1) B K rfl (rfl) ⟨hUI_524079, hF_524082, hG_524083, rg_w rc_1 (by decide) (by decide)⟩ dX11_restore_79
      · skip
        have r_524084 := (⟨(rx_524050).1, (eq_rg (h_524051) rc_0).2⟩ : Rg 0 0 x_524050)
        refine g_iconst C (v := 0) dX11_restore_21 (by decide) ?_
        exact g_zret (ty := .boolean) (r := 0) B K rfl (rfl) ⟨hU, hF, hG, rg_w rc_0 (by decide) (by decide)⟩ dX11_restore_22
