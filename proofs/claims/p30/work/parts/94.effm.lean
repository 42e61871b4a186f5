set_option maxRecDepth 100000 in
set_option maxHeartbeats 8000000 in
theorem c_X12_feed_e {l : Launch} {D : va_G} {cy : Nat → ClassId} {L : List Nat} {κ ln : Nat → Nat} {R : Nat → Nat → Option Nat} {I : Nat → Nat → Int32} {J : Nat → Nat → Int64} {ow : Nat → Nat × Nat} (W9 : ∀ a ∈ L, Shp L κ ln R ow a) {x : Nat} (hLx : x ∈ L) (hkx : κ x = 12) (a0 : Int32) (a1 : Int32) (a2 : Int32) (a3 : Int32) (a4 : Int32) (hU : Iw L κ R ow I) : CtI l yX12_feed cX12_feed 6 (some .int) { frames := 1, cells := 0, slots := 0, locals := 22 } D cy L κ ln R I J [.ref x, .int a0, .int a1, .int a2, .int a3, .int a4] (fun r I2 J2 => Iw L κ R ow I2 ∧ Fq L κ ow [1200, 1202, 82100] I I2 ∧ Fq L κ ow [] J J2 ∧ Rg (-1) 940 r ∧ ((r, MTf R I2 J2 x, NRf R I2 J2 x) = mFeed a0 a1 a2 a3 a4 (MTf R I J x) (NRf R I J x)) ∧ (Tf_ (I x 2) (I2 x 2) r)) := by
  obtain ⟨x_1, hx_1, rx_1⟩ := ex_getw (I := I) (a := x) (j := 2) (lo := 0) (hi := 940) hU.1 hLx (ro_o hkx (by decide)) rfl
  refine CtI.of (by decide +kernel) (Nat.le_of_ble_eq_true rfl) ?_
  intro p e s m below meth c B K
  have C := B.1
  have hF : Fq L κ ow [1200, 1202, 82100] I I := fq_rf
  have hG : Fq L κ ow [] J J := fq_rf
  obtain ⟨b_2, hb_2, hb_2L, hb_2k, hb_2n, hb_2o⟩ := shp_a (W9 x hLx) hkx 1 14 940 rfl (by decide)
  have emqx : ∀ I J, MTf R I J x = MTq I J x b_2 := fun I J => by simp only [MTf, rr_, Option.getD_some, hb_2]
  have wmqx : mqw_ L κ ow x b_2 := ⟨⟨hLx, hb_2L⟩, ⟨(ro_o hkx (by decide)), (ro_a hb_2k (by decide) hb_2o hkx rfl)⟩⟩
  obtain ⟨s_3, hs_3⟩ : ∃ z, MTq I J x b_2 = z := ⟨_, rfl⟩
  obtain ⟨b_4, hb_4, hb_4L, hb_4k, hb_4n, hb_4o⟩ := shp_a (W9 x hLx) hkx 15 14 72 rfl (by decide)
  obtain ⟨b_5, hb_5, hb_5L, hb_5k, hb_5n, hb_5o⟩ := shp_a (W9 x hLx) hkx 20 15 13 rfl (by decide)
  have enqx : ∀ I J, NRf R I J x = NRq I J x b_4 b_5 := fun I J => by simp only [NRf, rr_, Option.getD_some, hb_4, hb_5]
  have wnqx : nqw_ L κ ow x b_4 b_5 := ⟨⟨hLx, hb_4L, hb_5L⟩, ⟨(ro_o hkx (by decide)), (ro_a hb_4k (by decide) hb_4o hkx rfl), (ro_a hb_5k (by decide) hb_5o hkx rfl)⟩⟩
  obtain ⟨s_6, hs_6⟩ : ∃ z, NRq I J x b_4 b_5 = z := ⟨_, rfl⟩
  refine g_lo (is := [0, 1, 2, 3, 4, 5]) (lo2 := [(0, .ref x), (1, .int a0), (2, .int a1), (3, .int a2), (4, .int a3), (5, .int a4)]) rfl ?_
  refine g_aload_n C 0 dX12_feed_0 rfl rfl ?_
  refine g_iconst C (v := 0) dX12_feed_1 (by decide) ?_
  refine h_putI C K hLx hkx f_12_82 p_12_0 dX12_feed_2 (fun I_7 hI_7 => ?_)
  have hU_8 := iw_put W9 hU hI_7 (ro_o hkx (by decide)) (lo := (-2147483648)) (hi := 2147483647) (rfl) (rg_all _) rfl
  have hF_9 := fq_puto hF hI_7 hkx (by decide) (by decide)
  have hs_10 : MTq I_7 J x b_2 = s_3 := by rw [hI_7]; exact (mq_uIt wmqx (by decide)).trans hs_3
  have hs_11 : NRq I_7 J x b_4 b_5 = s_6 := by rw [hI_7]; exact (nq_uIt wnqx (by decide)).trans hs_6
  refine g_aload_n C 0 dX12_feed_5 rfl rfl ?_
  have f_12 : s_6.taped = x_1 := (congrArg NR_.taped hs_11).symm.trans (kp_j hI_7 (by decide) hx_1)
  refine g_getI C K hLx hkx f_12_85 (v := x_1) (kp_j hI_7 (by decide) hx_1) dX12_feed_6 ?_
  refine g_bipush C (v := 20) dX12_feed_9 (by decide) ?_
  obtain ⟨x_13, hx_13, rx_13, tx_13⟩ := ex_add 20 960 rx_1 rc_20 (by decide) (by decide) (by decide) (by decide)
  refine g_iadd C (v := x_13) dX12_feed_11 hx_13 ?_
  refine g_sipush C (v := 940) dX12_feed_12 (by decide) ?_
  refine g_icmp_le C (tgt := 20) dX12_feed_15 (by decide) (fun h_14 => ?_) (fun h_14 => ?_)
  · skip
    have r_15 := le_l (h_14) rx_13 rc_940
    have r_16 := rg_der (k := 20) (lo := 0) (hi := 920) (ti_k tx_13 rc_20) r_15 rx_1 (by decide) (by decide)
    refine g_aload_n C 0 dX12_feed_20 rfl rfl ?_
    refine g_iload_n C 1 dX12_feed_21 rfl rfl ?_
    refine g_callVV C K (c_X12_come W9 hLx hkx a0  hU_8  (eq_rg (kp_j hI_7 (by decide) hx_1) (rg_w r_16 (by decide) (by decide)))) hLx hkx (by decide) rfl v_12_88 rfl ⟨rfl, rfl⟩ ⟨Nat.le_of_ble_eq_true rfl, Nat.le_of_ble_eq_true rfl⟩ (Nat.le_of_ble_eq_true rfl) ⟨Nat.le_of_ble_eq_true rfl, Nat.le_of_ble_eq_true rfl⟩ dX12_feed_22 rfl (st := []) (fun I_18 J_19 h_20 => ?_)
    obtain ⟨hUI_18, hFI_18, hGJ_19, fx_17, ex_17⟩ := h_20
    have hF_21 := fq_tr hF_9 hFI_18 (by decide)
    have hG_22 := fq_tr hG hGJ_19 (by decide)
    obtain ⟨s_24, hs_24⟩ : ∃ z, MTq I_18 J_19 x b_2 = z := ⟨_, rfl⟩
    obtain ⟨s_25, hs_25⟩ : ∃ z, NRq I_18 J_19 x b_4 b_5 = z := ⟨_, rfl⟩
    have c_23 : mCome (a0) (s_3) (s_6) = (s_24, s_25) := by have q := fx_17; simp only [emqx, enqx, hs_10, hs_11, hs_24, hs_25] at q; exact q.symm
    obtain ⟨x_26, hx_26, rx_26, tx_26⟩ := cm_x 4 924 ex_17 (kp_j hI_7 (by decide) hx_1) r_16 (by decide) (by decide)
    refine g_aload_n C 0 dX12_feed_25 rfl rfl ?_
    refine g_iload_n C 2 dX12_feed_26 rfl rfl ?_
    have f_27 : s_25.taped = x_26 := (congrArg NR_.taped hs_25).symm.trans hx_26
    refine g_callVV C K (c_X12_come W9 hLx hkx a1  hUI_18  (eq_rg hx_26 (rg_w rx_26 (by decide) (by decide)))) hLx hkx (by decide) rfl v_12_88 rfl ⟨rfl, rfl⟩ ⟨Nat.le_of_ble_eq_true rfl, Nat.le_of_ble_eq_true rfl⟩ (Nat.le_of_ble_eq_true rfl) ⟨Nat.le_of_ble_eq_true rfl, Nat.le_of_ble_eq_true rfl⟩ dX12_feed_27 rfl (st := []) (fun I_29 J_30 h_31 => ?_)
    obtain ⟨hUI_29, hFI_29, hGJ_30, fx_28, ex_28⟩ := h_31
    have hF_32 := fq_tr hF_21 hFI_29 (by decide)
    have hG_33 := fq_tr hG_22 hGJ_30 (by decide)
    obtain ⟨s_35, hs_35⟩ : ∃ z, MTq I_29 J_30 x b_2 = z := ⟨_, rfl⟩
    obtain ⟨s_36, hs_36⟩ : ∃ z, NRq I_29 J_30 x b_4 b_5 = z := ⟨_, rfl⟩
    have c_34 : mCome (a1) (s_24) (s_25) = (s_35, s_36) := by have q := fx_28; simp only [emqx, enqx, hs_24, hs_25, hs_35, hs_36] at q; exact q.symm
    obtain ⟨x_37, hx_37, rx_37, tx_37⟩ := cm_x 8 928 ex_28 hx_26 rx_26 (by decide) (by decide)
    refine g_aload_n C 0 dX12_feed_30 rfl rfl ?_
    refine g_iload_n C 3 dX12_feed_31 rfl rfl ?_
    have f_38 : s_36.taped = x_37 := (congrArg NR_.taped hs_36).symm.trans hx_37
    refine g_callVV C K (c_X12_come W9 hLx hkx a2  hUI_29  (eq_rg hx_37 (rg_w rx_37 (by decide) (by decide)))) hLx hkx (by decide) rfl v_12_88 rfl ⟨rfl, rfl⟩ ⟨Nat.le_of_ble_eq_true rfl, Nat.le_of_ble_eq_true rfl⟩ (Nat.le_of_ble_eq_true rfl) ⟨Nat.le_of_ble_eq_true rfl, Nat.le_of_ble_eq_true rfl⟩ dX12_feed_32 rfl (st := []) (fun I_40 J_41 h_42 => ?_)
    obtain ⟨hUI_40, hFI_40, hGJ_41, fx_39, ex_39⟩ := h_42
    have hF_43 := fq_tr hF_32 hFI_40 (by decide)
    have hG_44 := fq_tr hG_33 hGJ_41 (by decide)
    obtain ⟨s_46, hs_46⟩ : ∃ z, MTq I_40 J_41 x b_2 = z := ⟨_, rfl⟩
    obtain ⟨s_47, hs_47⟩ : ∃ z, NRq I_40 J_41 x b_4 b_5 = z := ⟨_, rfl⟩
    have c_45 : mCome (a2) (s_35) (s_36) = (s_46, s_47) := by have q := fx_39; simp only [emqx, enqx, hs_35, hs_36, hs_46, hs_47] at q; exact q.symm
    obtain ⟨x_48, hx_48, rx_48, tx_48⟩ := cm_x 12 932 ex_39 hx_37 rx_37 (by decide) (by decide)
    refine g_aload_n C 0 dX12_feed_35 rfl rfl ?_
    refine g_iload C 4 dX12_feed_36 rfl ?_
    have f_49 : s_47.taped = x_48 := (congrArg NR_.taped hs_47).symm.trans hx_48
    refine g_callVV C K (c_X12_come W9 hLx hkx a3  hUI_40  (eq_rg hx_48 (rg_w rx_48 (by decide) (by decide)))) hLx hkx (by decide) rfl v_12_88 rfl ⟨rfl, rfl⟩ ⟨Nat.le_of_ble_eq_true rfl, Nat.le_of_ble_eq_true rfl⟩ (Nat.le_of_ble_eq_true rfl) ⟨Nat.le_of_ble_eq_true rfl, Nat.le_of_ble_eq_true rfl⟩ dX12_feed_38 rfl (st := []) (fun I_51 J_52 h_53 => ?_)
    obtain ⟨hUI_51, hFI_51, hGJ_52, fx_50, ex_50⟩ := h_53
    have hF_54 := fq_tr hF_43 hFI_51 (by decide)
    have hG_55 := fq_tr hG_44 hGJ_52 (by decide)
    obtain ⟨s_57, hs_57⟩ : ∃ z, MTq I_51 J_52 x b_2 = z := ⟨_, rfl⟩
    obtain ⟨s_58, hs_58⟩ : ∃ z, NRq I_51 J_52 x b_4 b_5 = z := ⟨_, rfl⟩
    have c_56 : mCome (a3) (s_46) (s_47) = (s_57, s_58) := by have q := fx_50; simp only [emqx, enqx, hs_46, hs_47, hs_57, hs_58] at q; exact q.symm
    obtain ⟨x_59, hx_59, rx_59, tx_59⟩ := cm_x 16 936 ex_50 hx_48 rx_48 (by decide) (by decide)
    refine g_aload_n C 0 dX12_feed_41 rfl rfl ?_
    refine g_iload C 5 dX12_feed_42 rfl ?_
    have f_60 : s_58.taped = x_59 := (congrArg NR_.taped hs_58).symm.trans hx_59
    refine g_callVV C K (c_X12_come W9 hLx hkx a4  hUI_51  (eq_rg hx_59 (rg_w rx_59 (by decide) (by decide)))) hLx hkx (by decide) rfl v_12_88 rfl ⟨rfl, rfl⟩ ⟨Nat.le_of_ble_eq_true rfl, Nat.le_of_ble_eq_true rfl⟩ (Nat.le_of_ble_eq_true rfl) ⟨Nat.le_of_ble_eq_true rfl, Nat.le_of_ble_eq_true rfl⟩ dX12_feed_44 rfl (st := []) (fun I_62 J_63 h_64 => ?_)
    obtain ⟨hUI_62, hFI_62, hGJ_63, fx_61, ex_61⟩ := h_64
    have hF_65 := fq_tr hF_54 hFI_62 (by decide)
    have hG_66 := fq_tr hG_55 hGJ_63 (by decide)
    obtain ⟨s_68, hs_68⟩ : ∃ z, MTq I_62 J_63 x b_2 = z := ⟨_, rfl⟩
    obtain ⟨s_69, hs_69⟩ : ∃ z, NRq I_62 J_63 x b_4 b_5 = z := ⟨_, rfl⟩
    have c_67 : mCome (a4) (s_57) (s_58) = (s_68, s_69) := by have q := fx_61; simp only [emqx, enqx, hs_57, hs_58, hs_68, hs_69] at q; exact q.symm
    obtain ⟨x_70, hx_70, rx_70, tx_70⟩ := cm_x 20 940 ex_61 hx_59 rx_59 (by decide) (by decide)
    refine g_aload_n C 0 dX12_feed_47 rfl rfl ?_
    have f_71 : s_69.taped = x_70 := (congrArg NR_.taped hs_69).symm.trans hx_70
    refine g_getI C K hLx hkx f_12_85 (v := x_70) hx_70 dX12_feed_48 ?_
    exact g_zret (ty := .int) (r := x_70) B K rfl (rfl) ⟨hUI_62, hF_65, hG_66, rg_w rx_70 (by decide) (by decide), (by simp only [mFeed, emqx, hs_68, hs_3, enqx, hs_69, hs_6, hx_1, f_12, hx_13, h_14, c_23, hx_26, f_27, c_34, hx_37, f_38, c_45, hx_48, f_49, c_56, hx_59, f_60, c_67, hx_70, f_71, if_true, if_false, mqM_tp, mqM_size, mqM_limit, mqM_to, mqM_frm, mqM_kind, mqM_number, mqM_sign, mqM_word, MT_.w_tp, MT_.w_size, MT_.w_limit, MT_.w_to, MT_.w_frm, MT_.w_kind, MT_.w_number, MT_.w_sign, MT_.w_word, nqM_rd, nqM_rn, nqM_taped, nqM_mfault, nqM_mplace, nqM_told, nqM_hl, nqM_hd, NR_.w_rd, NR_.w_rn, NR_.w_taped, NR_.w_mfault, NR_.w_mplace, NR_.w_told, NR_.w_hl, NR_.w_hd]), (Or.inl ⟨by rw [hx_1]; have := (r_16).2; omega, hx_70, by rw [hx_1]; have := tx_70; have := tx_59; have := tx_48; have := tx_37; have := tx_26; omega⟩)⟩ dX12_feed_51
  · skip
    have r_72 := lt_r (lo := 941) (nle h_14) rc_940 rx_13 (by decide)
    have r_73 := rg_der (k := 20) (lo := 921) (hi := 940) (ti_k tx_13 rc_20) r_72 rx_1 (by decide) (by decide)
    refine g_iconst C (v := (-1)) dX12_feed_18 (by decide) ?_
    exact g_zret (ty := .int) (r := (-1)) B K rfl (rfl) ⟨hU_8, hF_9, hG, rg_w rc_m1 (by decide) (by decide), (by simp only [mFeed, emqx, hs_10, hs_3, enqx, hs_11, hs_6, hx_1, f_12, hx_13, h_14, (nle h_14), if_true, if_false, mqM_tp, mqM_size, mqM_limit, mqM_to, mqM_frm, mqM_kind, mqM_number, mqM_sign, mqM_word, MT_.w_tp, MT_.w_size, MT_.w_limit, MT_.w_to, MT_.w_frm, MT_.w_kind, MT_.w_number, MT_.w_sign, MT_.w_word, nqM_rd, nqM_rn, nqM_taped, nqM_mfault, nqM_mplace, nqM_told, nqM_hl, nqM_hd, NR_.w_rd, NR_.w_rn, NR_.w_taped, NR_.w_mfault, NR_.w_mplace, NR_.w_told, NR_.w_hl, NR_.w_hd]), (Or.inr ⟨by rw [hx_1]; have := (r_73).1; omega, rfl, (kp_j hI_7 (by decide) hx_1).trans hx_1.symm⟩)⟩ dX12_feed_19
set_option maxRecDepth 100000 in
set_option maxHeartbeats 8000000 in
theorem c_X12_end_e {l : Launch} {D : va_G} {cy : Nat → ClassId} {L : List Nat} {κ ln : Nat → Nat} {R : Nat → Nat → Option Nat} {I : Nat → Nat → Int32} {J : Nat → Nat → Int64} {ow : Nat → Nat × Nat} (W9 : ∀ a ∈ L, Shp L κ ln R ow a) {x : Nat} (hLx : x ∈ L) (hkx : κ x = 12) (a0 : Int32) (hU : Iw L κ R ow I) : CtI l yX12_end cX12_end 2 (some .boolean) { frames := 0, cells := 0, slots := 0, locals := 0 } D cy L κ ln R I J [.ref x, .int a0] (fun r I2 J2 => Iw L κ R ow I2 ∧ Fq L κ ow [1200, 1202] I I2 ∧ Fq L κ ow [] J J2 ∧ Rg 0 1 r ∧ (Te_ (I x 2) (I2 x 2) a0 r)) := by
  obtain ⟨x_1, hx_1, rx_1⟩ := ex_getw (I := I) (a := x) (j := 2) (lo := 0) (hi := 940) hU.1 hLx (ro_o hkx (by decide)) rfl
  refine CtI.of (by decide +kernel) (Nat.le_of_ble_eq_true rfl) ?_
  intro p e s m below meth c B K
  have C := B.1
  have hF : Fq L κ ow [1200, 1202] I I := fq_rf
  have hG : Fq L κ ow [] J J := fq_rf
  refine g_lo (is := [0, 1]) (lo2 := [(0, .ref x), (1, .int a0)]) rfl ?_
  refine g_aload_n C 0 dX12_end_0 rfl rfl ?_
  refine g_iconst C (v := 0) dX12_end_1 (by decide) ?_
  refine h_putI C K hLx hkx f_12_82 p_12_0 dX12_end_2 (fun I_2 hI_2 => ?_)
  have hU_3 := iw_put W9 hU hI_2 (ro_o hkx (by decide)) (lo := (-2147483648)) (hi := 2147483647) (rfl) (rg_all _) rfl
  have hF_4 := fq_puto hF hI_2 hkx (by decide) (by decide)
  refine g_iload_n C 1 dX12_end_5 rfl rfl ?_
  refine g_if_lt C (tgt := 17) dX12_end_6 (by decide) (fun h_5 => ?_) (fun h_5 => ?_)
  · skip
    have r_6 := lt_l (hi := (-1)) (h_5) (rg_all a0) rc_0 (by decide)
    refine g_iconst C (v := 0) dX12_end_17 (by decide) ?_
    exact g_zret (ty := .boolean) (r := 0) B K rfl (rfl) ⟨hU_3, hF_4, hG, rg_w rc_0 (by decide) (by decide), (Or.inr ⟨Or.inl (by have := (r_6).2; omega), rfl, (kp_j hI_2 (by decide) hx_1).trans hx_1.symm⟩)⟩ dX12_end_18
  · skip
    have r_7 := le_r (nlt h_5) rc_0 (rg_all a0)
    refine g_iload_n C 1 dX12_end_9 rfl rfl ?_
    refine g_aload_n C 0 dX12_end_10 rfl rfl ?_
    refine g_getI C K hLx hkx f_12_85 (v := x_1) (kp_j hI_2 (by decide) hx_1) dX12_end_11 ?_
    refine g_icmp_le C (tgt := 19) dX12_end_14 (by decide) (fun h_8 => ?_) (fun h_8 => ?_)
    · skip
      have r_9 := le_l (h_8) r_7 rx_1
      refine g_aload_n C 0 dX12_end_19 rfl rfl ?_
      refine g_iload_n C 1 dX12_end_20 rfl rfl ?_
      refine h_putI C K hLx hkx f_12_85 p_12_2 dX12_end_21 (fun I_10 hI_10 => ?_)
      have hU_11 := iw_put W9 hU_3 hI_10 (ro_o hkx (by decide)) (lo := 0) (hi := 940) (rfl) (r_9) rfl
      have hF_12 := fq_puto hF_4 hI_10 hkx (by decide) (by decide)
      refine g_iconst C (v := 1) dX12_end_24 (by decide) ?_
      exact g_zret (ty := .boolean) (r := 1) B K rfl (rfl) ⟨hU_11, hF_12, hG, rg_w rc_1 (by decide) (by decide), (Or.inl ⟨by have := (r_9).1; omega, by rw [hx_1]; exact Int32.le_iff_toInt_le.mp (h_8), rfl, (kp_s hI_10)⟩)⟩ dX12_end_25
    · skip
      have r_13 := lt_r (lo := 1) (nle h_8) rx_1 r_7 (by decide)
      refine g_iconst C (v := 0) dX12_end_17 (by decide) ?_
      exact g_zret (ty := .boolean) (r := 0) B K rfl (rfl) ⟨hU_3, hF_4, hG, rg_w rc_0 (by decide) (by decide), (Or.inr ⟨Or.inr (by rw [hx_1]; exact Int32.lt_iff_toInt_lt.mp (nle h_8)), rfl, (kp_j hI_2 (by decide) hx_1).trans hx_1.symm⟩)⟩ dX12_end_18
set_option maxRecDepth 100000 in
set_option maxHeartbeats 8000000 in
theorem c_X12_take_e {l : Launch} {D : va_G} {cy : Nat → ClassId} {L : List Nat} {κ ln : Nat → Nat} {R : Nat → Nat → Option Nat} {I : Nat → Nat → Int32} {J : Nat → Nat → Int64} {ow : Nat → Nat × Nat} (W9 : ∀ a ∈ L, Shp L κ ln R ow a) {x : Nat} (hLx : x ∈ L) (hkx : κ x = 12) (hU : Iw L κ R ow I) : CtI l yX12_take cX12_take 2 (some .int) { frames := 0, cells := 0, slots := 0, locals := 0 } D cy L κ ln R I J [.ref x] (fun r I2 J2 => Iw L κ R ow I2 ∧ Fq L κ ow [1202] I I2 ∧ Fq L κ ow [] J J2 ∧ Rg 0 940 r ∧ ((r, NRf R I2 J2 x) = mTake (NRf R I J x)) ∧ (I2 x 2 = 0)) := by
  refine CtI.of (by decide +kernel) (Nat.le_of_ble_eq_true rfl) ?_
  intro p e s m below meth c B K
  have C := B.1
  have hF : Fq L κ ow [1202] I I := fq_rf
  have hG : Fq L κ ow [] J J := fq_rf
  obtain ⟨b_1, hb_1, hb_1L, hb_1k, hb_1n, hb_1o⟩ := shp_a (W9 x hLx) hkx 15 14 72 rfl (by decide)
  obtain ⟨b_2, hb_2, hb_2L, hb_2k, hb_2n, hb_2o⟩ := shp_a (W9 x hLx) hkx 20 15 13 rfl (by decide)
  have enqx : ∀ I J, NRf R I J x = NRq I J x b_1 b_2 := fun I J => by simp only [NRf, rr_, Option.getD_some, hb_1, hb_2]
  have wnqx : nqw_ L κ ow x b_1 b_2 := ⟨⟨hLx, hb_1L, hb_2L⟩, ⟨(ro_o hkx (by decide)), (ro_a hb_1k (by decide) hb_1o hkx rfl), (ro_a hb_2k (by decide) hb_2o hkx rfl)⟩⟩
  obtain ⟨s_3, hs_3⟩ : ∃ z, NRq I J x b_1 b_2 = z := ⟨_, rfl⟩
  refine g_lo (is := [0]) (lo2 := [(0, .ref x)]) rfl ?_
  refine g_aload_n C 0 dX12_take_0 rfl rfl ?_
  obtain ⟨x_4, hx_4, rx_4⟩ := ex_getw (I := I) (a := x) (j := 2) (lo := 0) (hi := 940) hU.1 hLx (ro_o hkx (by decide)) rfl
  have f_5 : s_3.taped = x_4 := (congrArg NR_.taped hs_3).symm.trans hx_4
  refine g_getI C K hLx hkx f_12_85 (v := x_4) hx_4 dX12_take_1 ?_
  refine g_istore_n C dX12_take_4 rfl (by decide) (lo2 := [(1, .int x_4), (0, .ref x)]) rfl ?_
  refine g_aload_n C 1 dX12_take_5 rfl rfl ?_
  refine g_iconst C (v := 0) dX12_take_6 (by decide) ?_
  refine h_putI C K hLx hkx f_12_85 p_12_2 dX12_take_7 (fun I_6 hI_6 => ?_)
  have hU_7 := iw_put W9 hU hI_6 (ro_o hkx (by decide)) (lo := 0) (hi := 940) (rfl) (rg_w rc_0 (by decide) (by decide)) rfl
  have hF_8 := fq_puto hF hI_6 hkx (by decide) (by decide)
  have hs_9 : NRq I_6 J x b_1 b_2 = (NR_.w_taped s_3 (0)) := by rw [hI_6]; exact ((nq_taped wnqx).trans (congrArg (fun z : NR_ => NR_.w_taped z (0)) hs_3)).trans rfl
  refine g_iload_n C 0 dX12_take_10 rfl rfl ?_
  exact g_zret (ty := .int) (r := x_4) B K rfl (rfl) ⟨hU_7, hF_8, hG, rx_4, (by simp only [mTake, enqx, hs_9, hs_3, hx_4, f_5, if_true, if_false, nqM_rd, nqM_rn, nqM_taped, nqM_mfault, nqM_mplace, nqM_told, nqM_hl, nqM_hd, NR_.w_rd, NR_.w_rn, NR_.w_taped, NR_.w_mfault, NR_.w_mplace, NR_.w_told, NR_.w_hl, NR_.w_hd]), (kp_s hI_6)⟩ dX12_take_11
set_option maxRecDepth 100000 in
set_option maxHeartbeats 8000000 in
theorem c_X12_begin_e {l : Launch} {D : va_G} {cy : Nat → ClassId} {L : List Nat} {κ ln : Nat → Nat} {R : Nat → Nat → Option Nat} {I : Nat → Nat → Int32} {J : Nat → Nat → Int64} {ow : Nat → Nat × Nat} (W9 : ∀ a ∈ L, Shp L κ ln R ow a) {x : Nat} (hLx : x ∈ L) (hkx : κ x = 12) (a0 : Int32) (ra0 : Rg 200 900 a0) (hU : Iw L κ R ow I) : CtV l yX12_begin cX12_begin 2 none { frames := 2, cells := 0, slots := 0, locals := 45 } D cy L κ ln R I J [.ref x, .int a0] (fun I2 J2 => Iw L κ R ow I2 ∧ Fq L κ ow [1200, 1202, 1203, 1204, 1205, 1206, 1207, 1208, 1209, 1210] I I2 ∧ Fq L κ ow [1212] J J2 ∧ ((MTf R I2 J2 x, NRf R I2 J2 x) = mBegin a0 (MTf R I J x) (NRf R I J x)) ∧ (I2 x 2 = 0)) := by
  refine CtV.of (by decide +kernel) (Nat.le_of_ble_eq_true rfl) ?_
  intro p e s m below meth c B K
  have C := B.1
  have hF : Fq L κ ow [1200, 1202, 1203, 1204, 1205, 1206, 1207, 1208, 1209, 1210] I I := fq_rf
  have hG : Fq L κ ow [1212] J J := fq_rf
  obtain ⟨b_1, hb_1, hb_1L, hb_1k, hb_1n, hb_1o⟩ := shp_a (W9 x hLx) hkx 1 14 940 rfl (by decide)
  have emqx : ∀ I J, MTf R I J x = MTq I J x b_1 := fun I J => by simp only [MTf, rr_, Option.getD_some, hb_1]
  have wmqx : mqw_ L κ ow x b_1 := ⟨⟨hLx, hb_1L⟩, ⟨(ro_o hkx (by decide)), (ro_a hb_1k (by decide) hb_1o hkx rfl)⟩⟩
  obtain ⟨s_2, hs_2⟩ : ∃ z, MTq I J x b_1 = z := ⟨_, rfl⟩
  obtain ⟨b_3, hb_3, hb_3L, hb_3k, hb_3n, hb_3o⟩ := shp_a (W9 x hLx) hkx 15 14 72 rfl (by decide)
  obtain ⟨b_4, hb_4, hb_4L, hb_4k, hb_4n, hb_4o⟩ := shp_a (W9 x hLx) hkx 20 15 13 rfl (by decide)
  have enqx : ∀ I J, NRf R I J x = NRq I J x b_3 b_4 := fun I J => by simp only [NRf, rr_, Option.getD_some, hb_3, hb_4]
  have wnqx : nqw_ L κ ow x b_3 b_4 := ⟨⟨hLx, hb_3L, hb_4L⟩, ⟨(ro_o hkx (by decide)), (ro_a hb_3k (by decide) hb_3o hkx rfl), (ro_a hb_4k (by decide) hb_4o hkx rfl)⟩⟩
  obtain ⟨s_5, hs_5⟩ : ∃ z, NRq I J x b_3 b_4 = z := ⟨_, rfl⟩
  refine g_lo (is := [0, 1]) (lo2 := [(0, .ref x), (1, .int a0)]) rfl ?_
  refine g_aload_n C 0 dX12_begin_0 rfl rfl ?_
  refine g_iconst C (v := 0) dX12_begin_1 (by decide) ?_
  refine h_putI C K hLx hkx f_12_82 p_12_0 dX12_begin_2 (fun I_6 hI_6 => ?_)
  have hU_7 := iw_put W9 hU hI_6 (ro_o hkx (by decide)) (lo := (-2147483648)) (hi := 2147483647) (rfl) (rg_all _) rfl
  have hF_8 := fq_puto hF hI_6 hkx (by decide) (by decide)
  have hs_9 : MTq I_6 J x b_1 = s_2 := by rw [hI_6]; exact (mq_uIt wmqx (by decide)).trans hs_2
  have hs_10 : NRq I_6 J x b_3 b_4 = s_5 := by rw [hI_6]; exact (nq_uIt wnqx (by decide)).trans hs_5
  refine g_aload_n C 0 dX12_begin_5 rfl rfl ?_
  refine g_aload_n C 0 dX12_begin_6 rfl rfl ?_
  refine g_callVI C K (c_X12_take_e W9 hLx hkx   hU_7) hLx hkx (by decide) rfl v_12_162 rfl ⟨rfl, rfl⟩ ⟨Nat.le_of_ble_eq_true rfl, Nat.le_of_ble_eq_true rfl⟩ (Nat.le_of_ble_eq_true rfl) ⟨Nat.le_of_ble_eq_true rfl, Nat.le_of_ble_eq_true rfl⟩ dX12_begin_7 rfl (st := [.ref x]) (fun x_11 I_12 J_13 h_14 => ?_)
  obtain ⟨hUI_12, hFI_12, hGJ_13, rx_11, fx_11, ex_11⟩ := h_14
  have hF_15 := fq_tr hF_8 hFI_12 (by decide)
  have hG_16 := fq_tr hG hGJ_13 (by decide)
  obtain ⟨s_18, hs_18⟩ : ∃ z, NRq I_12 J_13 x b_3 b_4 = z := ⟨_, rfl⟩
  have c_17 : mTake (s_5) = (x_11, s_18) := by have q := fx_11; simp only [enqx, hs_10, hs_18] at q; exact q.symm
  have hs_19 : MTq I_12 J_13 x b_1 = s_2 := (mq_fq wmqx hFI_12 hGJ_13 (by decide) (by decide)).trans hs_9
  refine h_putI C K hLx hkx f_12_92 p_12_3 dX12_begin_10 (fun I_20 hI_20 => ?_)
  have hU_21 := iw_put W9 hUI_12 hI_20 (ro_o hkx (by decide)) (lo := 0) (hi := 940) (rfl) (rx_11) rfl
  have hF_22 := fq_puto hF_15 hI_20 hkx (by decide) (by decide)
  have hs_23 : MTq I_20 J_13 x b_1 = (MT_.w_size s_2 (x_11)) := by rw [hI_20]; exact ((mq_size wmqx).trans (congrArg (fun z : MT_ => MT_.w_size z (x_11)) hs_19)).trans rfl
  have hs_24 : NRq I_20 J_13 x b_3 b_4 = s_18 := by rw [hI_20]; exact (nq_uIt wnqx (by decide)).trans hs_18
  refine g_aload_n C 0 dX12_begin_13 rfl rfl ?_
  refine g_iload_n C 1 dX12_begin_14 rfl rfl ?_
  refine h_putI C K hLx hkx f_12_101 p_12_4 dX12_begin_15 (fun I_25 hI_25 => ?_)
  have hU_26 := iw_put W9 hU_21 hI_25 (ro_o hkx (by decide)) (lo := 0) (hi := 900) (rfl) (rg_w ra0 (by decide) (by decide)) rfl
  have hF_27 := fq_puto hF_22 hI_25 hkx (by decide) (by decide)
  have hs_28 : MTq I_25 J_13 x b_1 = (MT_.w_limit (MT_.w_size s_2 (x_11)) (a0)) := by rw [hI_25]; exact ((mq_limit wmqx).trans (congrArg (fun z : MT_ => MT_.w_limit z (a0)) hs_23)).trans rfl
  have hs_29 : NRq I_25 J_13 x b_3 b_4 = s_18 := by rw [hI_25]; exact (nq_uIt wnqx (by decide)).trans hs_24
  refine g_aload_n C 0 dX12_begin_18 rfl rfl ?_
  refine g_iconst C (v := 0) dX12_begin_19 (by decide) ?_
  refine h_putI C K hLx hkx f_12_140 p_12_10 dX12_begin_20 (fun I_30 hI_30 => ?_)
  have hU_31 := iw_put W9 hU_26 hI_30 (ro_o hkx (by decide)) (lo := (-2147483648)) (hi := 2147483647) (rfl) (rg_all _) rfl
  have hF_32 := fq_puto hF_27 hI_30 hkx (by decide) (by decide)
  have hs_33 : MTq I_30 J_13 x b_1 = (MT_.w_limit (MT_.w_size s_2 (x_11)) (a0)) := by rw [hI_30]; exact (mq_uIt wmqx (by decide)).trans hs_28
  have hs_34 : NRq I_30 J_13 x b_3 b_4 = (NR_.w_mfault s_18 (0)) := by rw [hI_30]; exact ((nq_mfault wnqx).trans (congrArg (fun z : NR_ => NR_.w_mfault z (0)) hs_29)).trans rfl
  refine g_aload_n C 0 dX12_begin_23 rfl rfl ?_
  refine g_iconst C (v := 0) dX12_begin_24 (by decide) ?_
  refine h_putI C K hLx hkx f_12_95 p_12_5 dX12_begin_25 (fun I_35 hI_35 => ?_)
  have hU_36 := iw_put W9 hU_31 hI_35 (ro_o hkx (by decide)) (lo := 0) (hi := 940) (rfl) (rg_w rc_0 (by decide) (by decide)) rfl
  have hF_37 := fq_puto hF_32 hI_35 hkx (by decide) (by decide)
  have hs_38 : MTq I_35 J_13 x b_1 = (MT_.w_to (MT_.w_limit (MT_.w_size s_2 (x_11)) (a0)) (0)) := by rw [hI_35]; exact ((mq_to wmqx).trans (congrArg (fun z : MT_ => MT_.w_to z (0)) hs_33)).trans rfl
  have hs_39 : NRq I_35 J_13 x b_3 b_4 = (NR_.w_mfault s_18 (0)) := by rw [hI_35]; exact (nq_uIt wnqx (by decide)).trans hs_34
  refine g_aload_n C 0 dX12_begin_28 rfl rfl ?_
  refine g_callVV C K (c_X12_go W9 hLx hkx   hU_36) hLx hkx (by decide) rfl v_12_156 rfl ⟨rfl, rfl⟩ ⟨Nat.le_of_ble_eq_true rfl, Nat.le_of_ble_eq_true rfl⟩ (Nat.le_of_ble_eq_true rfl) ⟨Nat.le_of_ble_eq_true rfl, Nat.le_of_ble_eq_true rfl⟩ dX12_begin_29 rfl (st := []) (fun I_41 J_42 h_43 => ?_)
  obtain ⟨hUI_41, hFI_41, hGJ_42, fx_40, ex_40⟩ := h_43
  have hF_44 := fq_tr hF_37 hFI_41 (by decide)
  have hG_45 := fq_tr hG_16 hGJ_42 (by decide)
  obtain ⟨s_47, hs_47⟩ : ∃ z, MTq I_41 J_42 x b_1 = z := ⟨_, rfl⟩
  have c_46 : mGo ((MT_.w_to (MT_.w_limit (MT_.w_size s_2 (x_11)) (a0)) (0))) = s_47 := by have q := fx_40; simp only [emqx, hs_38, hs_47] at q; exact q.symm
  have hs_48 : NRq I_41 J_42 x b_3 b_4 = (NR_.w_mfault s_18 (0)) := (nq_fq wnqx hFI_41 hGJ_42 (by decide) (by decide)).trans hs_39
  have f_49 : s_18.taped = 0 := (congrArg NR_.taped hs_48).symm.trans (fq_at hFI_41 hLx hkx (by decide) (by decide) (kp_j hI_35 (by decide) (kp_j hI_30 (by decide) (kp_j hI_25 (by decide) (kp_j hI_20 (by decide) ex_11)))))
  exact g_vret B K rfl ⟨hUI_41, hF_44, hG_45, (by (try simp only [c_17, if_true, if_false, mqM_tp, mqM_size, mqM_limit, mqM_to, mqM_frm, mqM_kind, mqM_number, mqM_sign, mqM_word, MT_.w_tp, MT_.w_size, MT_.w_limit, MT_.w_to, MT_.w_frm, MT_.w_kind, MT_.w_number, MT_.w_sign, MT_.w_word, nqM_rd, nqM_rn, nqM_taped, nqM_mfault, nqM_mplace, nqM_told, nqM_hl, nqM_hd, NR_.w_rd, NR_.w_rn, NR_.w_taped, NR_.w_mfault, NR_.w_mplace, NR_.w_told, NR_.w_hl, NR_.w_hd] at c_46); simp only [mBegin, emqx, hs_47, hs_2, enqx, hs_48, hs_5, c_17, c_46, if_true, if_false, mqM_tp, mqM_size, mqM_limit, mqM_to, mqM_frm, mqM_kind, mqM_number, mqM_sign, mqM_word, MT_.w_tp, MT_.w_size, MT_.w_limit, MT_.w_to, MT_.w_frm, MT_.w_kind, MT_.w_number, MT_.w_sign, MT_.w_word, nqM_rd, nqM_rn, nqM_taped, nqM_mfault, nqM_mplace, nqM_told, nqM_hl, nqM_hd, NR_.w_rd, NR_.w_rn, NR_.w_taped, NR_.w_mfault, NR_.w_mplace, NR_.w_told, NR_.w_hl, NR_.w_hd]), (fq_at hFI_41 hLx hkx (by decide) (by decide) (kp_j hI_35 (by decide) (kp_j hI_30 (by decide) (kp_j hI_25 (by decide) (kp_j hI_20 (by decide) ex_11)))))⟩ dX12_begin_32
set_option maxRecDepth 100000 in
set_option maxHeartbeats 8000000 in
theorem c_X12_table_e {l : Launch} {D : va_G} {cy : Nat → ClassId} {L : List Nat} {κ ln : Nat → Nat} {R : Nat → Nat → Option Nat} {I : Nat → Nat → Int32} {J : Nat → Nat → Int64} {ow : Nat → Nat × Nat} (W9 : ∀ a ∈ L, Shp L κ ln R ow a) {x : Nat} (hLx : x ∈ L) (hkx : κ x = 12) (hU : Iw L κ R ow I) : CtI l yX12_table cX12_table 3 (some .int) { frames := 7, cells := 0, slots := 0, locals := 154 } D cy L κ ln R I J [.ref x] (fun r I2 J2 => Iw L κ R ow I2 ∧ Fq L κ ow [1200, 1202, 1203, 1204, 1205, 1206, 1207, 1208, 1209, 1210, 1211, 1213, 1223, 1224, 1225, 83400, 83500] I I2 ∧ Fq L κ ow [1212, 83900, 84000] J J2 ∧ Rg (-2147483648) 2147483647 r ∧ (r = mTable (MTf R I J x) (NRf R I J x)) ∧ ((mTableB (MTf R I J x) (NRf R I J x) = none ∧ Hd_ R x I I2) ∨ Nt_ R x I2 (mTableB (MTf R I J x) (NRf R I J x))) ∧ ((I2 x 2) = 0)) := by
  refine CtI.of (by decide +kernel) (Nat.le_of_ble_eq_true rfl) ?_
  intro p e s m below meth c B K
  have C := B.1
  have hF : Fq L κ ow [1200, 1202, 1203, 1204, 1205, 1206, 1207, 1208, 1209, 1210, 1211, 1213, 1223, 1224, 1225, 83400, 83500] I I := fq_rf
  have hG : Fq L κ ow [1212, 83900, 84000] J J := fq_rf
  obtain ⟨b_1, hb_1, hb_1L, hb_1k, hb_1n, hb_1o⟩ := shp_a (W9 x hLx) hkx 20 15 13 rfl (by decide)
  obtain ⟨b_2, hb_2, hb_2L, hb_2k, hb_2n, hb_2o⟩ := shp_a (W9 x hLx) hkx 15 14 72 rfl (by decide)
  obtain ⟨b_3, hb_3, hb_3L, hb_3k, hb_3n, hb_3o⟩ := shp_a (W9 x hLx) hkx 19 15 13 rfl (by decide)
  obtain ⟨b_4, hb_4, hb_4L, hb_4k, hb_4n, hb_4o⟩ := shp_a (W9 x hLx) hkx 14 14 389 rfl (by decide)
  obtain ⟨b_5, hb_5, hb_5L, hb_5k, hb_5n, hb_5o⟩ := shp_a (W9 x hLx) hkx 1 14 940 rfl (by decide)
  have emqx : ∀ I J, MTf R I J x = MTq I J x b_5 := fun I J => by simp only [MTf, rr_, Option.getD_some, hb_5]
  have wmqx : mqw_ L κ ow x b_5 := ⟨⟨hLx, hb_5L⟩, ⟨(ro_o hkx (by decide)), (ro_a hb_5k (by decide) hb_5o hkx rfl)⟩⟩
  obtain ⟨s_6, hs_6⟩ : ∃ z, MTq I J x b_5 = z := ⟨_, rfl⟩
  have enqx : ∀ I J, NRf R I J x = NRq I J x b_2 b_1 := fun I J => by simp only [NRf, rr_, Option.getD_some, hb_2, hb_1]
  have wnqx : nqw_ L κ ow x b_2 b_1 := ⟨⟨hLx, hb_2L, hb_1L⟩, ⟨(ro_o hkx (by decide)), (ro_a hb_2k (by decide) hb_2o hkx rfl), (ro_a hb_1k (by decide) hb_1o hkx rfl)⟩⟩
  obtain ⟨s_7, hs_7⟩ : ∃ z, NRq I J x b_2 b_1 = z := ⟨_, rfl⟩
  refine g_lo (is := [0]) (lo2 := [(0, .ref x)]) rfl ?_
  have l_102 : ∀ (n_102 : Nat) (I_8 : Nat → Nat → Int32) (J_9 : Nat → Nat → Int64) (hU_10 : Iw1 L κ R ow I_8) (hF_11 : Fq L κ ow [1200, 1202, 1203, 1204, 1205, 1206, 1207, 1208, 1209, 1210, 1211, 1213, 1223, 1224, 1225, 83400, 83500] I I_8) (hG_12 : Fq L κ ow [1212, 83900, 84000] J J_9) (v_13 : Int32) (v_14 : Int32) (rv_14 : Rg 0 13 v_14) (v_15 : Int32) (rv_15 : Rg 0 0 v_15) (q_16 : I_8 x 2 = 0) (q_17 : I_8 x 7 = v_15) (hq_18 : v_13 = mTable s_6 s_7) (hd_19 : Nt_ R x I_8 (mTableB (MTf R I J x) (NRf R I J x))) (hm_20 : 13 < (v_14 : Int32).toInt + (n_102 : Int)), WG p l e { frames := 7, cells := 0, slots := 0, locals := 154 } s m ([.ref x] : List Value).toArray below meth c 3 0 0 (MQ below (Qi_ D cy L κ ln R (fun r I2 J2 => Iw L κ R ow I2 ∧ Fq L κ ow [1200, 1202, 1203, 1204, 1205, 1206, 1207, 1208, 1209, 1210, 1211, 1213, 1223, 1224, 1225, 83400, 83500] I I2 ∧ Fq L κ ow [1212, 83900, 84000] J J2 ∧ Rg (-2147483648) 2147483647 r ∧ (r = mTable (MTf R I J x) (NRf R I J x)) ∧ ((mTableB (MTf R I J x) (NRf R I J x) = none ∧ Hd_ R x I I2) ∨ Nt_ R x I2 (mTableB (MTf R I J x) (NRf R I J x))) ∧ ((I2 x 2) = 0))) ([.ref x] : List Value).toArray s 0 0 (Al_ L)) D cy (Al_ L) s.heap L κ ln R I_8 J_9 102 [(0, .ref x), (1, .int v_13), (2, .int v_14)] [] := by
    intro n_102
    induction n_102 with
    | zero =>
      intro I_8 J_9 hU_10 hF_11 hG_12 v_13 v_14 rv_14 v_15 rv_15 q_16 q_17 hq_18 hd_19 hm_20
      exact ms_0 rv_14 hm_20
    | succ n_102 ih_102 =>
      intro I_8 J_9 hU_10 hF_11 hG_12 v_13 v_14 rv_14 v_15 rv_15 q_16 q_17 hq_18 hd_19 hm_20
      obtain ⟨s_21, hs_21⟩ : ∃ z, MTq I_8 J_9 x b_5 = z := ⟨_, rfl⟩
      obtain ⟨s_22, hs_22⟩ : ∃ z, NRq I_8 J_9 x b_2 b_1 = z := ⟨_, rfl⟩
      (try simp only [hs_21, hs_22] at hq_18)
      have hQ_23 := hq_18.symm
      refine g_iload_n C 2 dX12_table_102 rfl rfl ?_
      refine g_bipush C (v := 13) dX12_table_103 (by decide) ?_
      refine g_icmp_ge C (tgt := 126) dX12_table_105 (by decide) (fun h_24 => ?_) (fun h_24 => ?_)
      · skip
        have r_25 := le_r (h_24) rc_13 rv_14
        refine g_aload_n C 0 dX12_table_126 rfl rfl ?_
        refine g_callVV C K (c_X12_startSo W9 hLx hkx   hU_10) hLx hkx (by decide) rfl v_12_225 rfl ⟨rfl, rfl⟩ ⟨Nat.le_of_ble_eq_true rfl, Nat.le_of_ble_eq_true rfl⟩ (Nat.le_of_ble_eq_true rfl) ⟨Nat.le_of_ble_eq_true rfl, Nat.le_of_ble_eq_true rfl⟩ dX12_table_127 rfl (st := []) (fun I_27 J_28 h_29 => ?_)
        obtain ⟨hUI_27, hFI_27, hGJ_28, ex_26⟩ := h_29
        have hF_30 := fq_tr hF_11 hFI_27 (by decide)
        have hG_31 := fq_tr hG_12 hGJ_28 (by decide)
        have hs_32 : MTq I_27 J_28 x b_5 = s_21 := (mq_fq wmqx hFI_27 hGJ_28 (by decide) (by decide)).trans hs_21
        have hs_33 : NRq I_27 J_28 x b_2 b_1 = s_22 := (nq_fq wnqx hFI_27 hGJ_28 (by decide) (by decide)).trans hs_22
        refine g_aload_n C 0 dX12_table_130 rfl rfl ?_
        refine g_iconst C (v := 0) dX12_table_131 (by decide) ?_
        refine h_putI C K hLx hkx f_12_228 p_12_23 dX12_table_132 (fun I_34 hI_34 => ?_)
        have hU_35 := iw_z W9 hUI_27 (uw_put hUI_27.1 hI_34 (ro_o hkx (by decide)) (lo := 0) (hi := 8) (rfl) (rg_w rc_0 (by decide) (by decide))) hLx hkx hI_34
        have hF_36 := fq_puto hF_30 hI_34 hkx (by decide) (by decide)
        have hs_37 : MTq I_34 J_28 x b_5 = s_21 := by rw [hI_34]; exact (mq_uIt wmqx (by decide)).trans hs_32
        have hs_38 : NRq I_34 J_28 x b_2 b_1 = s_22 := by rw [hI_34]; exact (nq_uIt wnqx (by decide)).trans hs_33
        refine g_iload_n C 1 dX12_table_135 rfl rfl ?_
        have f_39 : s_22.taped = 0 := (congrArg NR_.taped hs_38).symm.trans (kp_j hI_34 (by decide) (fq_at hFI_27 hLx hkx (by decide) (by decide) q_16))
        exact g_zret (ty := .int) (r := v_13) B K rfl (rfl) ⟨hU_35, hF_36, hG_31, (rg_all v_13), (by (try simp only [h_24, if_true, if_false, mqM_tp, mqM_size, mqM_limit, mqM_to, mqM_frm, mqM_kind, mqM_number, mqM_sign, mqM_word, MT_.w_tp, MT_.w_size, MT_.w_limit, MT_.w_to, MT_.w_frm, MT_.w_kind, MT_.w_number, MT_.w_sign, MT_.w_word, nqM_rd, nqM_rn, nqM_taped, nqM_mfault, nqM_mplace, nqM_told, nqM_hl, nqM_hd, NR_.w_rd, NR_.w_rn, NR_.w_taped, NR_.w_mfault, NR_.w_mplace, NR_.w_told, NR_.w_hl, NR_.w_hd] at hQ_23); simp only [emqx, hs_37, hs_6, enqx, hs_38, hs_7, hQ_23, h_24, if_true, if_false, mqM_tp, mqM_size, mqM_limit, mqM_to, mqM_frm, mqM_kind, mqM_number, mqM_sign, mqM_word, MT_.w_tp, MT_.w_size, MT_.w_limit, MT_.w_to, MT_.w_frm, MT_.w_kind, MT_.w_number, MT_.w_sign, MT_.w_word, nqM_rd, nqM_rn, nqM_taped, nqM_mfault, nqM_mplace, nqM_told, nqM_hl, nqM_hd, NR_.w_rd, NR_.w_rn, NR_.w_taped, NR_.w_mfault, NR_.w_mplace, NR_.w_told, NR_.w_hl, NR_.w_hd]), (Or.inr (nt_hd (nt_hd hd_19 ex_26) (hd_u (r := 0) W9 hLx hkx hd_rf hI_34 (Or.inl (ro_o hkx (by decide)))))), ((kp_j hI_34 (by decide) (fq_at hFI_27 hLx hkx (by decide) (by decide) q_16)))⟩ dX12_table_136
      · skip
        have r_40 := lt_l (hi := 12) (nle h_24) rv_14 rc_13 (by decide)
        refine g_aload_n C 0 dX12_table_108 rfl rfl ?_
        refine g_getR C K hLx hkx f_12_28 hb_3 dX12_table_109 ?_
        refine g_iload_n C 2 dX12_table_112 rfl rfl ?_
        refine g_aload_n C 0 dX12_table_113 rfl rfl ?_
        refine g_getR C K hLx hkx f_12_32 hb_1 dX12_table_114 ?_
        refine g_iload_n C 2 dX12_table_117 rfl rfl ?_
        obtain ⟨y_41, hy_41⟩ : ∃ z, J_9 b_1 (v_14.toNatClampNeg) = z := ⟨_, rfl⟩
        have f_42 : s_22.rn (v_14.toNatClampNeg) = y_41 := (congrFun (congrArg NR_.rn hs_22) _).symm.trans hy_41
        refine h_lald C K hb_1L hb_1k (v := y_41) (v_14.toNatClampNeg) (rfl) (ix_0 r_40 (by decide)) (ix_lt r_40 (by decide) hb_1n (by decide)) hy_41 dX12_table_118 ?_
        refine h_last C K hb_3L hb_3k (v_14.toNatClampNeg) (rfl) (ix_0 r_40 (by decide)) (ix_lt r_40 (by decide) hb_3n (by decide)) dX12_table_119 (fun J_43 hJ_43 => ?_)
        have hG_44 := fq_puta hG_12 hJ_43 (ro_a hb_3k (by decide) hb_3o hkx rfl) (by decide) (by decide)
        have hs_45 : MTq I_8 J_43 x b_5 = s_21 := by rw [hJ_43]; exact (mq_oJ wmqx (ro_a hb_3k (by decide) hb_3o hkx rfl) (by decide)).trans hs_21
        have hs_46 : NRq I_8 J_43 x b_2 b_1 = s_22 := by rw [hJ_43]; exact (nq_oJ wnqx (ro_a hb_3k (by decide) hb_3o hkx rfl) (by decide)).trans hs_22
        obtain ⟨x_47, hx_47, rx_47, tx_47⟩ := ex_add (y := 1) 1 13 r_40 rc_1 (by decide) (by decide) (by decide) (by decide)
        refine g_iinc C dX12_table_120 (k := 2) (v := x_47) rfl hx_47 (by decide) (lo2 := [(2, .int x_47), (0, .ref x), (1, .int v_13)]) rfl ?_
        refine g_goto C (tgt := 102) dX12_table_123 (by decide) ?_
        refine g_lo (is := [1, 2, 0]) (lo2 := [(0, .ref x), (1, .int v_13), (2, .int x_47)]) rfl ?_
        exact ih_102 I_8 J_43 hU_10 hF_11 hG_44 v_13 x_47 (rg_w rx_47 (by decide) (by decide)) v_15 (rv_15) q_16 q_17 (by (try simp only [h_24, (nle h_24), hy_41, f_42, hx_47, if_true, if_false, mqM_tp, mqM_size, mqM_limit, mqM_to, mqM_frm, mqM_kind, mqM_number, mqM_sign, mqM_word, MT_.w_tp, MT_.w_size, MT_.w_limit, MT_.w_to, MT_.w_frm, MT_.w_kind, MT_.w_number, MT_.w_sign, MT_.w_word, nqM_rd, nqM_rn, nqM_taped, nqM_mfault, nqM_mplace, nqM_told, nqM_hl, nqM_hd, NR_.w_rd, NR_.w_rn, NR_.w_taped, NR_.w_mfault, NR_.w_mplace, NR_.w_told, NR_.w_hl, NR_.w_hd] at hQ_23); simp only [emqx, hs_45, hs_6, enqx, hs_46, hs_7, hQ_23, h_24, (nle h_24), hy_41, f_42, hx_47, if_true, if_false, mqM_tp, mqM_size, mqM_limit, mqM_to, mqM_frm, mqM_kind, mqM_number, mqM_sign, mqM_word, MT_.w_tp, MT_.w_size, MT_.w_limit, MT_.w_to, MT_.w_frm, MT_.w_kind, MT_.w_number, MT_.w_sign, MT_.w_word, nqM_rd, nqM_rn, nqM_taped, nqM_mfault, nqM_mplace, nqM_told, nqM_hl, nqM_hd, NR_.w_rd, NR_.w_rn, NR_.w_taped, NR_.w_mfault, NR_.w_mplace, NR_.w_told, NR_.w_hl, NR_.w_hd]) hd_19 (ms_1 hm_20 (ti_k tx_47 rc_1) (by decide))
  have l_40 : ∀ (n_40 : Nat) (I_48 : Nat → Nat → Int32) (J_49 : Nat → Nat → Int64) (hU_50 : Iw L κ R ow I_48) (hF_51 : Fq L κ ow [1200, 1202, 1203, 1204, 1205, 1206, 1207, 1208, 1209, 1210, 1211, 1213, 1223, 1224, 1225, 83400, 83500] I I_48) (hG_52 : Fq L κ ow [1212, 83900, 84000] J J_49) (v_53 : Int32) (q_54 : I_48 x 2 = 0) (hq_55 : (mtl n_40 v_53 ((MTq I_48 J_49 x b_5), (NRq I_48 J_49 x b_2 b_1))).1 = mTable s_6 s_7) (hq_56 : mtlB n_40 v_53 ((MTq I_48 J_49 x b_5), (NRq I_48 J_49 x b_2 b_1)) = mTableB s_6 s_7) (hd_57 : Hd_ R x I I_48) (hm_58 : 940 < (I_48 x 5).toInt + (n_40 : Int)), WG p l e { frames := 7, cells := 0, slots := 0, locals := 154 } s m ([.ref x] : List Value).toArray below meth c 3 0 0 (MQ below (Qi_ D cy L κ ln R (fun r I2 J2 => Iw L κ R ow I2 ∧ Fq L κ ow [1200, 1202, 1203, 1204, 1205, 1206, 1207, 1208, 1209, 1210, 1211, 1213, 1223, 1224, 1225, 83400, 83500] I I2 ∧ Fq L κ ow [1212, 83900, 84000] J J2 ∧ Rg (-2147483648) 2147483647 r ∧ (r = mTable (MTf R I J x) (NRf R I J x)) ∧ ((mTableB (MTf R I J x) (NRf R I J x) = none ∧ Hd_ R x I I2) ∨ Nt_ R x I2 (mTableB (MTf R I J x) (NRf R I J x))) ∧ ((I2 x 2) = 0))) ([.ref x] : List Value).toArray s 0 0 (Al_ L)) D cy (Al_ L) s.heap L κ ln R I_48 J_49 40 [(0, .ref x), (1, .int v_53)] [] := by
    intro n_40
    induction n_40 with
    | zero =>
      intro I_48 J_49 hU_50 hF_51 hG_52 v_53 q_54 hq_55 hq_56 hd_57 hm_58
      exact absurd hm_58 (by obtain ⟨z, hz, rz⟩ := ex_getw (I := I_48) (a := x) (j := 5) (lo := 0) (hi := 940) hU_50.1 hLx (ro_o hkx (by decide)) rfl; rw [hz]; have := rz.2; omega)
    | succ n_40 ih_40 =>
      intro I_48 J_49 hU_50 hF_51 hG_52 v_53 q_54 hq_55 hq_56 hd_57 hm_58
      obtain ⟨s_59, hs_59⟩ : ∃ z, MTq I_48 J_49 x b_5 = z := ⟨_, rfl⟩
      obtain ⟨s_60, hs_60⟩ : ∃ z, NRq I_48 J_49 x b_2 b_1 = z := ⟨_, rfl⟩
      simp only [hs_59, hs_60] at hq_55
      have hQ_61 := hq_55.symm
      simp only [hs_59, hs_60] at hq_56
      have hQ_62 := hq_56.symm
      have u_63 := mtl_eq (k := n_40) (i := v_53) (s := (s_59, s_60))
      have u_64 := mtlB_eq (k := n_40) (i := v_53) (s := (s_59, s_60))
      refine g_aload_n C 0 dX12_table_40 rfl rfl ?_
      obtain ⟨x_65, hx_65, rx_65⟩ := ex_getw (I := I_48) (a := x) (j := 7) (lo := 0) (hi := 4) hU_50.1 hLx (ro_o hkx (by decide)) rfl
      have f_66 : s_59.kind = x_65 := (congrArg MT_.kind hs_59).symm.trans hx_65
      refine g_getI C K hLx hkx f_12_104 (v := x_65) hx_65 dX12_table_41 ?_
      refine g_if_eq C (tgt := 74) dX12_table_44 (by decide) (fun h_67 => ?_) (fun h_67 => ?_)
      · skip
        have r_68 := (⟨(rx_65).1, (eq_rg (h_67) rc_0).2⟩ : Rg 0 0 x_65)
        have tb_69 : mTableB (MTf R I J x) (NRf R I J x) = some (s_60.rd) := by (try simp only [hx_65, f_66, (eq_true h_67), if_true, if_false, mqM_tp, mqM_size, mqM_limit, mqM_to, mqM_frm, mqM_kind, mqM_number, mqM_sign, mqM_word, MT_.w_tp, MT_.w_size, MT_.w_limit, MT_.w_to, MT_.w_frm, MT_.w_kind, MT_.w_number, MT_.w_sign, MT_.w_word, nqM_rd, nqM_rn, nqM_taped, nqM_mfault, nqM_mplace, nqM_told, nqM_hl, nqM_hd, NR_.w_rd, NR_.w_rn, NR_.w_taped, NR_.w_mfault, NR_.w_mplace, NR_.w_told, NR_.w_hl, NR_.w_hd] at hQ_61); (try simp only [hx_65, f_66, (eq_true h_67), if_true, if_false, mqM_tp, mqM_size, mqM_limit, mqM_to, mqM_frm, mqM_kind, mqM_number, mqM_sign, mqM_word, MT_.w_tp, MT_.w_size, MT_.w_limit, MT_.w_to, MT_.w_frm, MT_.w_kind, MT_.w_number, MT_.w_sign, MT_.w_word, nqM_rd, nqM_rn, nqM_taped, nqM_mfault, nqM_mplace, nqM_told, nqM_hl, nqM_hd, NR_.w_rd, NR_.w_rn, NR_.w_taped, NR_.w_mfault, NR_.w_mplace, NR_.w_told, NR_.w_hl, NR_.w_hd] at hQ_62); (try simp only [hx_65, f_66, (eq_true h_67), if_true, if_false, mqM_tp, mqM_size, mqM_limit, mqM_to, mqM_frm, mqM_kind, mqM_number, mqM_sign, mqM_word, MT_.w_tp, MT_.w_size, MT_.w_limit, MT_.w_to, MT_.w_frm, MT_.w_kind, MT_.w_number, MT_.w_sign, MT_.w_word, nqM_rd, nqM_rn, nqM_taped, nqM_mfault, nqM_mplace, nqM_told, nqM_hl, nqM_hd, NR_.w_rd, NR_.w_rn, NR_.w_taped, NR_.w_mfault, NR_.w_mplace, NR_.w_told, NR_.w_hl, NR_.w_hd] at u_63); (try simp only [hx_65, f_66, (eq_true h_67), if_true, if_false, mqM_tp, mqM_size, mqM_limit, mqM_to, mqM_frm, mqM_kind, mqM_number, mqM_sign, mqM_word, MT_.w_tp, MT_.w_size, MT_.w_limit, MT_.w_to, MT_.w_frm, MT_.w_kind, MT_.w_number, MT_.w_sign, MT_.w_word, nqM_rd, nqM_rn, nqM_taped, nqM_mfault, nqM_mplace, nqM_told, nqM_hl, nqM_hd, NR_.w_rd, NR_.w_rn, NR_.w_taped, NR_.w_mfault, NR_.w_mplace, NR_.w_told, NR_.w_hl, NR_.w_hd] at u_64); simp only [emqx, hs_59, hs_6, enqx, hs_60, hs_7, hQ_61, hQ_62, u_63, u_64, hx_65, f_66, (eq_true h_67), if_true, if_false, mqM_tp, mqM_size, mqM_limit, mqM_to, mqM_frm, mqM_kind, mqM_number, mqM_sign, mqM_word, MT_.w_tp, MT_.w_size, MT_.w_limit, MT_.w_to, MT_.w_frm, MT_.w_kind, MT_.w_number, MT_.w_sign, MT_.w_word, nqM_rd, nqM_rn, nqM_taped, nqM_mfault, nqM_mplace, nqM_told, nqM_hl, nqM_hd, NR_.w_rd, NR_.w_rn, NR_.w_taped, NR_.w_mfault, NR_.w_mplace, NR_.w_told, NR_.w_hl, NR_.w_hd]
        have rdj_70 : ∀ j, I_48 b_2 j = (s_60.rd) j := fun j => congrFun (congrArg NR_.rd hs_60) j
        refine g_iconst C (v := 0) dX12_table_74 (by decide) ?_
        refine g_istore_n C dX12_table_75 rfl (by decide) (lo2 := [(2, .int 0), (0, .ref x), (1, .int v_53)]) rfl ?_
        refine g_lo (is := [1, 2, 0]) (lo2 := [(0, .ref x), (1, .int v_53), (2, .int 0)]) rfl ?_
        have ex_76 : ∀ (I_72 : Nat → Nat → Int32) (hI_72 : I_72 = cpn_ I_48 b_2 b_4 (0) (0) 72) (v_71 : Int32) (rv_71 : Rg 72 72 v_71), WG p l e { frames := 7, cells := 0, slots := 0, locals := 154 } s m ([.ref x] : List Value).toArray below meth c 3 0 0 (MQ below (Qi_ D cy L κ ln R (fun r I2 J2 => Iw L κ R ow I2 ∧ Fq L κ ow [1200, 1202, 1203, 1204, 1205, 1206, 1207, 1208, 1209, 1210, 1211, 1213, 1223, 1224, 1225, 83400, 83500] I I2 ∧ Fq L κ ow [1212, 83900, 84000] J J2 ∧ Rg (-2147483648) 2147483647 r ∧ (r = mTable (MTf R I J x) (NRf R I J x)) ∧ ((mTableB (MTf R I J x) (NRf R I J x) = none ∧ Hd_ R x I I2) ∨ Nt_ R x I2 (mTableB (MTf R I J x) (NRf R I J x))) ∧ ((I2 x 2) = 0))) ([.ref x] : List Value).toArray s 0 0 (Al_ L)) D cy (Al_ L) s.heap L κ ln R I_72 J_49 100 [(0, .ref x), (1, .int v_53), (2, .int v_71)] [] := by
          intro I_72 hI_72 v_71 rv_71
          have hF_73 := fq_cpn hF_51 hI_72 (ro_a hb_4k (by decide) hb_4o hkx rfl) (by decide) (by decide)
          have hU_74 := uw_cpn hU_50.1 hb_2L hI_72 (ro_a hb_4k (by decide) hb_4o hkx rfl) (ro_a hb_2k (by decide) hb_2o hkx rfl) (fun i _ => by rw [bn_834, bn_835]; exact ⟨Int.le_refl _, Int.le_refl _⟩)
          have hU_75 := iw_hd W9 hU_50 hU_74 hLx hkx hb_4 hI_72
          refine g_iconst C (v := 0) dX12_table_100 (by decide) ?_
          refine g_istore_n C dX12_table_101 rfl (by decide) (lo2 := [(2, .int 0), (0, .ref x), (1, .int v_53)]) rfl ?_
          refine g_lo (is := [1, 2, 0]) (lo2 := [(0, .ref x), (1, .int v_53), (2, .int 0)]) rfl ?_
          exact l_102 14 I_72 J_49 hU_75 hF_73 hG_52 v_53 0 (rg_w rc_0 (by decide) (by decide)) x_65 (r_68) (kp_cn (κ := κ) hI_72 (by rw [hkx, hb_4k]; decide) q_54) (kp_cn (κ := κ) hI_72 (by rw [hkx, hb_4k]; decide) hx_65) (by (try simp only [hx_65, f_66, (eq_true h_67), if_true, if_false, mqM_tp, mqM_size, mqM_limit, mqM_to, mqM_frm, mqM_kind, mqM_number, mqM_sign, mqM_word, MT_.w_tp, MT_.w_size, MT_.w_limit, MT_.w_to, MT_.w_frm, MT_.w_kind, MT_.w_number, MT_.w_sign, MT_.w_word, nqM_rd, nqM_rn, nqM_taped, nqM_mfault, nqM_mplace, nqM_told, nqM_hl, nqM_hd, NR_.w_rd, NR_.w_rn, NR_.w_taped, NR_.w_mfault, NR_.w_mplace, NR_.w_told, NR_.w_hl, NR_.w_hd] at hQ_61); (try simp only [hx_65, f_66, (eq_true h_67), if_true, if_false, mqM_tp, mqM_size, mqM_limit, mqM_to, mqM_frm, mqM_kind, mqM_number, mqM_sign, mqM_word, MT_.w_tp, MT_.w_size, MT_.w_limit, MT_.w_to, MT_.w_frm, MT_.w_kind, MT_.w_number, MT_.w_sign, MT_.w_word, nqM_rd, nqM_rn, nqM_taped, nqM_mfault, nqM_mplace, nqM_told, nqM_hl, nqM_hd, NR_.w_rd, NR_.w_rn, NR_.w_taped, NR_.w_mfault, NR_.w_mplace, NR_.w_told, NR_.w_hl, NR_.w_hd] at hQ_62); (try simp only [hx_65, f_66, (eq_true h_67), if_true, if_false, mqM_tp, mqM_size, mqM_limit, mqM_to, mqM_frm, mqM_kind, mqM_number, mqM_sign, mqM_word, MT_.w_tp, MT_.w_size, MT_.w_limit, MT_.w_to, MT_.w_frm, MT_.w_kind, MT_.w_number, MT_.w_sign, MT_.w_word, nqM_rd, nqM_rn, nqM_taped, nqM_mfault, nqM_mplace, nqM_told, nqM_hl, nqM_hd, NR_.w_rd, NR_.w_rn, NR_.w_taped, NR_.w_mfault, NR_.w_mplace, NR_.w_told, NR_.w_hl, NR_.w_hd] at u_63); (try simp only [hx_65, f_66, (eq_true h_67), if_true, if_false, mqM_tp, mqM_size, mqM_limit, mqM_to, mqM_frm, mqM_kind, mqM_number, mqM_sign, mqM_word, MT_.w_tp, MT_.w_size, MT_.w_limit, MT_.w_to, MT_.w_frm, MT_.w_kind, MT_.w_number, MT_.w_sign, MT_.w_word, nqM_rd, nqM_rn, nqM_taped, nqM_mfault, nqM_mplace, nqM_told, nqM_hl, nqM_hd, NR_.w_rd, NR_.w_rn, NR_.w_taped, NR_.w_mfault, NR_.w_mplace, NR_.w_told, NR_.w_hl, NR_.w_hd] at u_64); simp only [emqx, hs_6, enqx, hs_7, hQ_61, hQ_62, u_63, u_64, hx_65, f_66, (eq_true h_67), if_true, if_false, mqM_tp, mqM_size, mqM_limit, mqM_to, mqM_frm, mqM_kind, mqM_number, mqM_sign, mqM_word, MT_.w_tp, MT_.w_size, MT_.w_limit, MT_.w_to, MT_.w_frm, MT_.w_kind, MT_.w_number, MT_.w_sign, MT_.w_word, nqM_rd, nqM_rn, nqM_taped, nqM_mfault, nqM_mplace, nqM_told, nqM_hl, nqM_hd, NR_.w_rd, NR_.w_rn, NR_.w_taped, NR_.w_mfault, NR_.w_mplace, NR_.w_told, NR_.w_hl, NR_.w_hd]) (nt_new tb_69 hb_4 rdj_70 hI_72) (ms_s (a := 0) (b := 13) (N := 14) (rg_w rc_0 (by decide) (by decide)) (by decide))
        have l_76 : ∀ (m_76 : Nat) (v_76 : Int32) (I_77 : Nat → Nat → Int32), v_76.toInt + (m_76 : Int) = 72 → 0 ≤ v_76.toInt → I_77 = cpn_ I_48 b_2 b_4 (0) (0) v_76.toNatClampNeg → WG p l e { frames := 7, cells := 0, slots := 0, locals := 154 } s m ([.ref x] : List Value).toArray below meth c 3 0 0 (MQ below (Qi_ D cy L κ ln R (fun r I2 J2 => Iw L κ R ow I2 ∧ Fq L κ ow [1200, 1202, 1203, 1204, 1205, 1206, 1207, 1208, 1209, 1210, 1211, 1213, 1223, 1224, 1225, 83400, 83500] I I2 ∧ Fq L κ ow [1212, 83900, 84000] J J2 ∧ Rg (-2147483648) 2147483647 r ∧ (r = mTable (MTf R I J x) (NRf R I J x)) ∧ ((mTableB (MTf R I J x) (NRf R I J x) = none ∧ Hd_ R x I I2) ∨ Nt_ R x I2 (mTableB (MTf R I J x) (NRf R I J x))) ∧ ((I2 x 2) = 0))) ([.ref x] : List Value).toArray s 0 0 (Al_ L)) D cy (Al_ L) s.heap L κ ln R I_77 J_49 76 [(0, .ref x), (1, .int v_53), (2, .int v_76)] [] := by
          intro m_76
          induction m_76 with
          | zero =>
            intro v_76 I_77 hk_76 h0_76 hI_77
            have rv_76 : Rg 72 72 v_76 := by unfold Rg; omega
            refine g_iload_n C 2 dX12_table_76 rfl rfl ?_
            refine g_bipush C (v := 72) dX12_table_77 (by decide) ?_
            refine g_icmp_ge C (tgt := 100) dX12_table_79 (by decide) (fun h_78 => ?_) (fun h_78 => ?_)
            · skip
              refine g_lo (is := [0, 1, 2]) (lo2 := [(0, .ref x), (1, .int v_53), (2, .int v_76)]) rfl ?_
              exact ex_76 I_77 (hI_77.trans (congrArg (fun q => cpn_ I_48 b_2 b_4 (0) (0) q) (show v_76.toNatClampNeg = 72 from by have := ix_n rv_76 (by decide); have := rv_76.1; have := rv_76.2; omega))) v_76 rv_76
            · skip
              have r_79 := lt_l (hi := 71) (nle h_78) rv_76 rc_72 (by decide)
              exact rg_no r_79 (by decide)
          | succ m_76 ih_76 =>
            intro v_76 I_77 hk_76 h0_76 hI_77
            have rv_76 : Rg 0 71 v_76 := by unfold Rg; omega
            refine g_iload_n C 2 dX12_table_76 rfl rfl ?_
            refine g_bipush C (v := 72) dX12_table_77 (by decide) ?_
            refine g_icmp_ge C (tgt := 100) dX12_table_79 (by decide) (fun h_80 => ?_) (fun h_80 => ?_)
            · skip
              have r_81 := le_r (h_80) rc_72 rv_76
              exact rg_no r_81 (by decide)
            · skip
              refine g_aload_n C 0 dX12_table_82 rfl rfl ?_
              refine g_getR C K hLx hkx f_12_13 hb_4 dX12_table_83 ?_
              refine g_iload_n C 2 dX12_table_86 rfl rfl ?_
              refine g_aload_n C 0 dX12_table_87 rfl rfl ?_
              refine g_getR C K hLx hkx f_12_16 hb_2 dX12_table_88 ?_
              refine g_iload_n C 2 dX12_table_91 rfl rfl ?_
              obtain ⟨x_82, hx_82, rx_82⟩ := ex_any (z0 := I_77 b_2 (v_76.toNatClampNeg))
              refine h_iald C K hb_2L hb_2k (v := x_82) (v_76.toNatClampNeg) (rfl) (ix_0 rv_76 (by decide)) (ix_lt rv_76 (by decide) hb_2n (by decide)) hx_82 dX12_table_92 ?_
              refine h_iast C K hb_4L hb_4k (v_76.toNatClampNeg) (rfl) (ix_0 rv_76 (by decide)) (ix_lt rv_76 (by decide) hb_4n (by decide)) dX12_table_93 (fun I_83 hI_83 => ?_)
              obtain ⟨x_84, hx_84, rx_84, tx_84⟩ := ex_add (y := 1) 1 72 rv_76 rc_1 (by decide) (by decide) (by decide) (by decide)
              refine g_iinc C dX12_table_94 (k := 2) (v := x_84) rfl hx_84 (by decide) (lo2 := [(2, .int x_84), (0, .ref x), (1, .int v_53)]) rfl ?_
              refine g_goto C (tgt := 76) dX12_table_97 (by decide) ?_
              refine g_lo (is := [1, 2, 0]) (lo2 := [(0, .ref x), (1, .int v_53), (2, .int x_84)]) rfl ?_
              have kk_76 : x_84.toNatClampNeg = v_76.toNatClampNeg + 1 := by have q1 := ix_n rv_76 (by decide); have q2 := (ti_k tx_84 rc_1); have q3 : x_84.toNatClampNeg = x_84.toInt.toNat := rfl; omega
              exact ih_76 x_84 I_83 (by have := (ti_k tx_84 rc_1); omega) (by have := (ti_k tx_84 rc_1); omega) (by rw [kk_76]; exact cpn_s hI_77 hx_82 hI_83 (show v_76.toNatClampNeg = (0) + v_76.toNatClampNeg from by omega) (show v_76.toNatClampNeg = (0) + v_76.toNatClampNeg from by omega) (Or.inl (ne_ro (ro_a hb_2k (by decide) hb_2o hkx rfl) (ro_a hb_4k (by decide) hb_4o hkx rfl) (by decide))))
        exact l_76 72 0 I_48 (by decide) (by decide) cpn_0
      · skip
        have n_85 : ¬ x_65 = 0 := h_67
        have r_86 := ne_lo (lo := 1) n_85 rx_65 rc_0 rfl (by decide)
        refine g_aload_n C 0 dX12_table_47 rfl rfl ?_
        refine g_callVI C K (c_X12_readLine W9 hLx hkx   hU_50) hLx hkx (by decide) rfl v_12_219 rfl ⟨rfl, rfl⟩ ⟨Nat.le_of_ble_eq_true rfl, Nat.le_of_ble_eq_true rfl⟩ (Nat.le_of_ble_eq_true rfl) ⟨Nat.le_of_ble_eq_true rfl, Nat.le_of_ble_eq_true rfl⟩ dX12_table_48 rfl (st := []) (fun x_87 I_88 J_89 h_90 => ?_)
        obtain ⟨hUI_88, hFI_88, hGJ_89, rx_87, fx_87, ex_87⟩ := h_90
        have hF_91 := fq_tr hF_51 hFI_88 (by decide)
        have hG_92 := fq_tr hG_52 hGJ_89 (by decide)
        obtain ⟨s_94, hs_94⟩ : ∃ z, MTq I_88 J_89 x b_5 = z := ⟨_, rfl⟩
        obtain ⟨s_95, hs_95⟩ : ∃ z, NRq I_88 J_89 x b_2 b_1 = z := ⟨_, rfl⟩
        have c_93 : mReadLine (s_59) (s_60) = (x_87, s_94, s_95) := by have q := fx_87; simp only [emqx, enqx, hs_59, hs_60, hs_94, hs_95] at q; exact q.symm
        refine g_if_eq C (tgt := 61) dX12_table_51 (by decide) (fun h_96 => ?_) (fun h_96 => ?_)
        · skip
          have r_97 := (⟨(rx_87).1, (eq_rg (h_96) rc_0).2⟩ : Rg 0 0 x_87)
          refine g_iconst C (v := (-1)) dX12_table_61 (by decide) ?_
          refine g_aload_n C 0 dX12_table_62 rfl rfl ?_
          obtain ⟨x_98, hx_98, rx_98⟩ := ex_getw (I := I_88) (a := x) (j := 11) (lo := (-2147483648)) (hi := 2147483647) hUI_88.1 hLx (ro_o hkx (by decide)) rfl
          have f_99 : s_95.mplace = x_98 := (congrArg NR_.mplace hs_95).symm.trans hx_98
          refine g_getI C K hLx hkx f_12_143 (v := x_98) hx_98 dX12_table_63 ?_
          obtain ⟨x_100, hx_100, rx_100, tx_100⟩ := ex_sub (-2147483648) 2147483647 rc_m1 rx_98 (by decide) (by decide) (by decide) (by decide)
          refine g_isub C (v := x_100) dX12_table_66 hx_100 ?_
          have tb_101 : mTableB (MTf R I J x) (NRf R I J x) = none := by (try simp only [hx_65, f_66, h_67, c_93, (eq_true h_96), hx_98, f_99, hx_100, if_true, if_false, mqM_tp, mqM_size, mqM_limit, mqM_to, mqM_frm, mqM_kind, mqM_number, mqM_sign, mqM_word, MT_.w_tp, MT_.w_size, MT_.w_limit, MT_.w_to, MT_.w_frm, MT_.w_kind, MT_.w_number, MT_.w_sign, MT_.w_word, nqM_rd, nqM_rn, nqM_taped, nqM_mfault, nqM_mplace, nqM_told, nqM_hl, nqM_hd, NR_.w_rd, NR_.w_rn, NR_.w_taped, NR_.w_mfault, NR_.w_mplace, NR_.w_told, NR_.w_hl, NR_.w_hd] at hQ_61); (try simp only [hx_65, f_66, h_67, c_93, (eq_true h_96), hx_98, f_99, hx_100, if_true, if_false, mqM_tp, mqM_size, mqM_limit, mqM_to, mqM_frm, mqM_kind, mqM_number, mqM_sign, mqM_word, MT_.w_tp, MT_.w_size, MT_.w_limit, MT_.w_to, MT_.w_frm, MT_.w_kind, MT_.w_number, MT_.w_sign, MT_.w_word, nqM_rd, nqM_rn, nqM_taped, nqM_mfault, nqM_mplace, nqM_told, nqM_hl, nqM_hd, NR_.w_rd, NR_.w_rn, NR_.w_taped, NR_.w_mfault, NR_.w_mplace, NR_.w_told, NR_.w_hl, NR_.w_hd] at hQ_62); (try simp only [hx_65, f_66, h_67, c_93, (eq_true h_96), hx_98, f_99, hx_100, if_true, if_false, mqM_tp, mqM_size, mqM_limit, mqM_to, mqM_frm, mqM_kind, mqM_number, mqM_sign, mqM_word, MT_.w_tp, MT_.w_size, MT_.w_limit, MT_.w_to, MT_.w_frm, MT_.w_kind, MT_.w_number, MT_.w_sign, MT_.w_word, nqM_rd, nqM_rn, nqM_taped, nqM_mfault, nqM_mplace, nqM_told, nqM_hl, nqM_hd, NR_.w_rd, NR_.w_rn, NR_.w_taped, NR_.w_mfault, NR_.w_mplace, NR_.w_told, NR_.w_hl, NR_.w_hd] at u_63); (try simp only [hx_65, f_66, h_67, c_93, (eq_true h_96), hx_98, f_99, hx_100, if_true, if_false, mqM_tp, mqM_size, mqM_limit, mqM_to, mqM_frm, mqM_kind, mqM_number, mqM_sign, mqM_word, MT_.w_tp, MT_.w_size, MT_.w_limit, MT_.w_to, MT_.w_frm, MT_.w_kind, MT_.w_number, MT_.w_sign, MT_.w_word, nqM_rd, nqM_rn, nqM_taped, nqM_mfault, nqM_mplace, nqM_told, nqM_hl, nqM_hd, NR_.w_rd, NR_.w_rn, NR_.w_taped, NR_.w_mfault, NR_.w_mplace, NR_.w_told, NR_.w_hl, NR_.w_hd] at u_64); simp only [emqx, hs_94, hs_6, enqx, hs_95, hs_7, hQ_61, hQ_62, u_63, u_64, hx_65, f_66, h_67, c_93, (eq_true h_96), hx_98, f_99, hx_100, if_true, if_false, mqM_tp, mqM_size, mqM_limit, mqM_to, mqM_frm, mqM_kind, mqM_number, mqM_sign, mqM_word, MT_.w_tp, MT_.w_size, MT_.w_limit, MT_.w_to, MT_.w_frm, MT_.w_kind, MT_.w_number, MT_.w_sign, MT_.w_word, nqM_rd, nqM_rn, nqM_taped, nqM_mfault, nqM_mplace, nqM_told, nqM_hl, nqM_hd, NR_.w_rd, NR_.w_rn, NR_.w_taped, NR_.w_mfault, NR_.w_mplace, NR_.w_told, NR_.w_hl, NR_.w_hd]
          have f_102 : s_95.taped = 0 := (congrArg NR_.taped hs_95).symm.trans (fq_at hFI_88 hLx hkx (by decide) (by decide) q_54)
          exact g_zret (ty := .int) (r := x_100) B K rfl (rfl) ⟨hUI_88, hF_91, hG_92, rx_100, (by (try simp only [hx_65, f_66, h_67, c_93, (eq_true h_96), hx_98, f_99, hx_100, if_true, if_false, mqM_tp, mqM_size, mqM_limit, mqM_to, mqM_frm, mqM_kind, mqM_number, mqM_sign, mqM_word, MT_.w_tp, MT_.w_size, MT_.w_limit, MT_.w_to, MT_.w_frm, MT_.w_kind, MT_.w_number, MT_.w_sign, MT_.w_word, nqM_rd, nqM_rn, nqM_taped, nqM_mfault, nqM_mplace, nqM_told, nqM_hl, nqM_hd, NR_.w_rd, NR_.w_rn, NR_.w_taped, NR_.w_mfault, NR_.w_mplace, NR_.w_told, NR_.w_hl, NR_.w_hd] at hQ_61); (try simp only [hx_65, f_66, h_67, c_93, (eq_true h_96), hx_98, f_99, hx_100, if_true, if_false, mqM_tp, mqM_size, mqM_limit, mqM_to, mqM_frm, mqM_kind, mqM_number, mqM_sign, mqM_word, MT_.w_tp, MT_.w_size, MT_.w_limit, MT_.w_to, MT_.w_frm, MT_.w_kind, MT_.w_number, MT_.w_sign, MT_.w_word, nqM_rd, nqM_rn, nqM_taped, nqM_mfault, nqM_mplace, nqM_told, nqM_hl, nqM_hd, NR_.w_rd, NR_.w_rn, NR_.w_taped, NR_.w_mfault, NR_.w_mplace, NR_.w_told, NR_.w_hl, NR_.w_hd] at hQ_62); (try simp only [hx_65, f_66, h_67, c_93, (eq_true h_96), hx_98, f_99, hx_100, if_true, if_false, mqM_tp, mqM_size, mqM_limit, mqM_to, mqM_frm, mqM_kind, mqM_number, mqM_sign, mqM_word, MT_.w_tp, MT_.w_size, MT_.w_limit, MT_.w_to, MT_.w_frm, MT_.w_kind, MT_.w_number, MT_.w_sign, MT_.w_word, nqM_rd, nqM_rn, nqM_taped, nqM_mfault, nqM_mplace, nqM_told, nqM_hl, nqM_hd, NR_.w_rd, NR_.w_rn, NR_.w_taped, NR_.w_mfault, NR_.w_mplace, NR_.w_told, NR_.w_hl, NR_.w_hd] at u_63); (try simp only [hx_65, f_66, h_67, c_93, (eq_true h_96), hx_98, f_99, hx_100, if_true, if_false, mqM_tp, mqM_size, mqM_limit, mqM_to, mqM_frm, mqM_kind, mqM_number, mqM_sign, mqM_word, MT_.w_tp, MT_.w_size, MT_.w_limit, MT_.w_to, MT_.w_frm, MT_.w_kind, MT_.w_number, MT_.w_sign, MT_.w_word, nqM_rd, nqM_rn, nqM_taped, nqM_mfault, nqM_mplace, nqM_told, nqM_hl, nqM_hd, NR_.w_rd, NR_.w_rn, NR_.w_taped, NR_.w_mfault, NR_.w_mplace, NR_.w_told, NR_.w_hl, NR_.w_hd] at u_64); simp only [emqx, hs_94, hs_6, enqx, hs_95, hs_7, hQ_61, hQ_62, u_63, u_64, hx_65, f_66, h_67, c_93, (eq_true h_96), hx_98, f_99, hx_100, if_true, if_false, mqM_tp, mqM_size, mqM_limit, mqM_to, mqM_frm, mqM_kind, mqM_number, mqM_sign, mqM_word, MT_.w_tp, MT_.w_size, MT_.w_limit, MT_.w_to, MT_.w_frm, MT_.w_kind, MT_.w_number, MT_.w_sign, MT_.w_word, nqM_rd, nqM_rn, nqM_taped, nqM_mfault, nqM_mplace, nqM_told, nqM_hl, nqM_hd, NR_.w_rd, NR_.w_rn, NR_.w_taped, NR_.w_mfault, NR_.w_mplace, NR_.w_told, NR_.w_hl, NR_.w_hd]), (Or.inl ⟨tb_101, (hd_fq W9 hLx hkx hd_57 hFI_88 (by decide))⟩), ((fq_at hFI_88 hLx hkx (by decide) (by decide) q_54))⟩ dX12_table_67
        · skip
          have n_103 : ¬ x_87 = 0 := h_96
          have r_104 := ne_lo (lo := 1) n_103 rx_87 rc_0 rfl (by decide)
          refine g_aload_n C 0 dX12_table_54 rfl rfl ?_
          refine g_callVI C K (c_X12_readEnd W9 hLx hkx   hUI_88) hLx hkx (by decide) rfl v_12_222 rfl ⟨rfl, rfl⟩ ⟨Nat.le_of_ble_eq_true rfl, Nat.le_of_ble_eq_true rfl⟩ (Nat.le_of_ble_eq_true rfl) ⟨Nat.le_of_ble_eq_true rfl, Nat.le_of_ble_eq_true rfl⟩ dX12_table_55 rfl (st := []) (fun x_105 I_106 J_107 h_108 => ?_)
          obtain ⟨hUI_106, hFI_106, hGJ_107, rx_105, fx_105, ex_105⟩ := h_108
          have hF_109 := fq_tr hF_91 hFI_106 (by decide)
          have hG_110 := fq_tr hG_92 hGJ_107 (by decide)
          obtain ⟨s_112, hs_112⟩ : ∃ z, MTq I_106 J_107 x b_5 = z := ⟨_, rfl⟩
          obtain ⟨s_113, hs_113⟩ : ∃ z, NRq I_106 J_107 x b_2 b_1 = z := ⟨_, rfl⟩
          have c_111 : mReadEnd (s_94) (s_95) = (x_105, s_112, s_113) := by have q := fx_105; simp only [emqx, enqx, hs_94, hs_95, hs_112, hs_113] at q; exact q.symm
          refine g_if_ne C (tgt := 68) dX12_table_58 (by decide) (fun h_114 => ?_) (fun h_114 => ?_)
          · skip
            have n_115 : ¬ x_105 = 0 := h_114
            have r_116 := ne_lo (lo := 1) n_115 rx_105 rc_0 rfl (by decide)
            obtain ⟨x_117, hx_117, rx_117⟩ := ex_any (z0 := v_53 + 1)
            refine g_iinc C dX12_table_68 (k := 1) (v := x_117) rfl hx_117 (by decide) (lo2 := [(1, .int x_117), (0, .ref x)]) rfl ?_
            refine g_goto C (tgt := 40) dX12_table_71 (by decide) ?_
            refine g_lo (is := [1, 0]) (lo2 := [(0, .ref x), (1, .int x_117)]) rfl ?_
            exact ih_40 I_106 J_107 hUI_106 hF_109 hG_110 x_117 (fq_at hFI_106 hLx hkx (by decide) (by decide) (fq_at hFI_88 hLx hkx (by decide) (by decide) q_54)) (by (try simp only [hx_65, f_66, h_67, c_93, h_96, c_111, h_114, hx_117, if_true, if_false, mqM_tp, mqM_size, mqM_limit, mqM_to, mqM_frm, mqM_kind, mqM_number, mqM_sign, mqM_word, MT_.w_tp, MT_.w_size, MT_.w_limit, MT_.w_to, MT_.w_frm, MT_.w_kind, MT_.w_number, MT_.w_sign, MT_.w_word, nqM_rd, nqM_rn, nqM_taped, nqM_mfault, nqM_mplace, nqM_told, nqM_hl, nqM_hd, NR_.w_rd, NR_.w_rn, NR_.w_taped, NR_.w_mfault, NR_.w_mplace, NR_.w_told, NR_.w_hl, NR_.w_hd] at hQ_61); (try simp only [hx_65, f_66, h_67, c_93, h_96, c_111, h_114, hx_117, if_true, if_false, mqM_tp, mqM_size, mqM_limit, mqM_to, mqM_frm, mqM_kind, mqM_number, mqM_sign, mqM_word, MT_.w_tp, MT_.w_size, MT_.w_limit, MT_.w_to, MT_.w_frm, MT_.w_kind, MT_.w_number, MT_.w_sign, MT_.w_word, nqM_rd, nqM_rn, nqM_taped, nqM_mfault, nqM_mplace, nqM_told, nqM_hl, nqM_hd, NR_.w_rd, NR_.w_rn, NR_.w_taped, NR_.w_mfault, NR_.w_mplace, NR_.w_told, NR_.w_hl, NR_.w_hd] at hQ_62); (try simp only [hx_65, f_66, h_67, c_93, h_96, c_111, h_114, hx_117, if_true, if_false, mqM_tp, mqM_size, mqM_limit, mqM_to, mqM_frm, mqM_kind, mqM_number, mqM_sign, mqM_word, MT_.w_tp, MT_.w_size, MT_.w_limit, MT_.w_to, MT_.w_frm, MT_.w_kind, MT_.w_number, MT_.w_sign, MT_.w_word, nqM_rd, nqM_rn, nqM_taped, nqM_mfault, nqM_mplace, nqM_told, nqM_hl, nqM_hd, NR_.w_rd, NR_.w_rn, NR_.w_taped, NR_.w_mfault, NR_.w_mplace, NR_.w_told, NR_.w_hl, NR_.w_hd] at u_63); (try simp only [hx_65, f_66, h_67, c_93, h_96, c_111, h_114, hx_117, if_true, if_false, mqM_tp, mqM_size, mqM_limit, mqM_to, mqM_frm, mqM_kind, mqM_number, mqM_sign, mqM_word, MT_.w_tp, MT_.w_size, MT_.w_limit, MT_.w_to, MT_.w_frm, MT_.w_kind, MT_.w_number, MT_.w_sign, MT_.w_word, nqM_rd, nqM_rn, nqM_taped, nqM_mfault, nqM_mplace, nqM_told, nqM_hl, nqM_hd, NR_.w_rd, NR_.w_rn, NR_.w_taped, NR_.w_mfault, NR_.w_mplace, NR_.w_told, NR_.w_hl, NR_.w_hd] at u_64); simp only [emqx, hs_112, hs_6, enqx, hs_113, hs_7, hQ_61, hQ_62, u_63, u_64, hx_65, f_66, h_67, c_93, h_96, c_111, h_114, hx_117, if_true, if_false, mqM_tp, mqM_size, mqM_limit, mqM_to, mqM_frm, mqM_kind, mqM_number, mqM_sign, mqM_word, MT_.w_tp, MT_.w_size, MT_.w_limit, MT_.w_to, MT_.w_frm, MT_.w_kind, MT_.w_number, MT_.w_sign, MT_.w_word, nqM_rd, nqM_rn, nqM_taped, nqM_mfault, nqM_mplace, nqM_told, nqM_hl, nqM_hd, NR_.w_rd, NR_.w_rn, NR_.w_taped, NR_.w_mfault, NR_.w_mplace, NR_.w_told, NR_.w_hl, NR_.w_hd]) (by (try simp only [hx_65, f_66, h_67, c_93, h_96, c_111, h_114, hx_117, if_true, if_false, mqM_tp, mqM_size, mqM_limit, mqM_to, mqM_frm, mqM_kind, mqM_number, mqM_sign, mqM_word, MT_.w_tp, MT_.w_size, MT_.w_limit, MT_.w_to, MT_.w_frm, MT_.w_kind, MT_.w_number, MT_.w_sign, MT_.w_word, nqM_rd, nqM_rn, nqM_taped, nqM_mfault, nqM_mplace, nqM_told, nqM_hl, nqM_hd, NR_.w_rd, NR_.w_rn, NR_.w_taped, NR_.w_mfault, NR_.w_mplace, NR_.w_told, NR_.w_hl, NR_.w_hd] at hQ_61); (try simp only [hx_65, f_66, h_67, c_93, h_96, c_111, h_114, hx_117, if_true, if_false, mqM_tp, mqM_size, mqM_limit, mqM_to, mqM_frm, mqM_kind, mqM_number, mqM_sign, mqM_word, MT_.w_tp, MT_.w_size, MT_.w_limit, MT_.w_to, MT_.w_frm, MT_.w_kind, MT_.w_number, MT_.w_sign, MT_.w_word, nqM_rd, nqM_rn, nqM_taped, nqM_mfault, nqM_mplace, nqM_told, nqM_hl, nqM_hd, NR_.w_rd, NR_.w_rn, NR_.w_taped, NR_.w_mfault, NR_.w_mplace, NR_.w_told, NR_.w_hl, NR_.w_hd] at hQ_62); (try simp only [hx_65, f_66, h_67, c_93, h_96, c_111, h_114, hx_117, if_true, if_false, mqM_tp, mqM_size, mqM_limit, mqM_to, mqM_frm, mqM_kind, mqM_number, mqM_sign, mqM_word, MT_.w_tp, MT_.w_size, MT_.w_limit, MT_.w_to, MT_.w_frm, MT_.w_kind, MT_.w_number, MT_.w_sign, MT_.w_word, nqM_rd, nqM_rn, nqM_taped, nqM_mfault, nqM_mplace, nqM_told, nqM_hl, nqM_hd, NR_.w_rd, NR_.w_rn, NR_.w_taped, NR_.w_mfault, NR_.w_mplace, NR_.w_told, NR_.w_hl, NR_.w_hd] at u_63); (try simp only [hx_65, f_66, h_67, c_93, h_96, c_111, h_114, hx_117, if_true, if_false, mqM_tp, mqM_size, mqM_limit, mqM_to, mqM_frm, mqM_kind, mqM_number, mqM_sign, mqM_word, MT_.w_tp, MT_.w_size, MT_.w_limit, MT_.w_to, MT_.w_frm, MT_.w_kind, MT_.w_number, MT_.w_sign, MT_.w_word, nqM_rd, nqM_rn, nqM_taped, nqM_mfault, nqM_mplace, nqM_told, nqM_hl, nqM_hd, NR_.w_rd, NR_.w_rn, NR_.w_taped, NR_.w_mfault, NR_.w_mplace, NR_.w_told, NR_.w_hl, NR_.w_hd] at u_64); simp only [emqx, hs_112, hs_6, enqx, hs_113, hs_7, hQ_61, hQ_62, u_63, u_64, hx_65, f_66, h_67, c_93, h_96, c_111, h_114, hx_117, if_true, if_false, mqM_tp, mqM_size, mqM_limit, mqM_to, mqM_frm, mqM_kind, mqM_number, mqM_sign, mqM_word, MT_.w_tp, MT_.w_size, MT_.w_limit, MT_.w_to, MT_.w_frm, MT_.w_kind, MT_.w_number, MT_.w_sign, MT_.w_word, nqM_rd, nqM_rn, nqM_taped, nqM_mfault, nqM_mplace, nqM_told, nqM_hl, nqM_hd, NR_.w_rd, NR_.w_rn, NR_.w_taped, NR_.w_mfault, NR_.w_mplace, NR_.w_told, NR_.w_hl, NR_.w_hd]) (hd_fq W9 hLx hkx (hd_fq W9 hLx hkx hd_57 hFI_88 (by decide)) hFI_106 (by decide)) (tb_m hm_58 (ps_t2 pg_rf (ex_87.2 n_103)) (ex_105.2 (rg_nz r_116 (by decide))) ex_105.1.1)
          · skip
            have r_118 := (⟨(rx_105).1, (eq_rg (h_114) rc_0).2⟩ : Rg 0 0 x_105)
            refine g_iconst C (v := (-1)) dX12_table_61 (by decide) ?_
            refine g_aload_n C 0 dX12_table_62 rfl rfl ?_
            obtain ⟨x_119, hx_119, rx_119⟩ := ex_getw (I := I_106) (a := x) (j := 11) (lo := (-2147483648)) (hi := 2147483647) hUI_106.1 hLx (ro_o hkx (by decide)) rfl
            have f_120 : s_113.mplace = x_119 := (congrArg NR_.mplace hs_113).symm.trans hx_119
            refine g_getI C K hLx hkx f_12_143 (v := x_119) hx_119 dX12_table_63 ?_
            obtain ⟨x_121, hx_121, rx_121, tx_121⟩ := ex_sub (-2147483648) 2147483647 rc_m1 rx_119 (by decide) (by decide) (by decide) (by decide)
            refine g_isub C (v := x_121) dX12_table_66 hx_121 ?_
            have tb_122 : mTableB (MTf R I J x) (NRf R I J x) = none := by (try simp only [hx_65, f_66, h_67, c_93, h_96, c_111, (eq_true h_114), hx_119, f_120, hx_121, if_true, if_false, mqM_tp, mqM_size, mqM_limit, mqM_to, mqM_frm, mqM_kind, mqM_number, mqM_sign, mqM_word, MT_.w_tp, MT_.w_size, MT_.w_limit, MT_.w_to, MT_.w_frm, MT_.w_kind, MT_.w_number, MT_.w_sign, MT_.w_word, nqM_rd, nqM_rn, nqM_taped, nqM_mfault, nqM_mplace, nqM_told, nqM_hl, nqM_hd, NR_.w_rd, NR_.w_rn, NR_.w_taped, NR_.w_mfault, NR_.w_mplace, NR_.w_told, NR_.w_hl, NR_.w_hd] at hQ_61); (try simp only [hx_65, f_66, h_67, c_93, h_96, c_111, (eq_true h_114), hx_119, f_120, hx_121, if_true, if_false, mqM_tp, mqM_size, mqM_limit, mqM_to, mqM_frm, mqM_kind, mqM_number, mqM_sign, mqM_word, MT_.w_tp, MT_.w_size, MT_.w_limit, MT_.w_to, MT_.w_frm, MT_.w_kind, MT_.w_number, MT_.w_sign, MT_.w_word, nqM_rd, nqM_rn, nqM_taped, nqM_mfault, nqM_mplace, nqM_told, nqM_hl, nqM_hd, NR_.w_rd, NR_.w_rn, NR_.w_taped, NR_.w_mfault, NR_.w_mplace, NR_.w_told, NR_.w_hl, NR_.w_hd] at hQ_62); (try simp only [hx_65, f_66, h_67, c_93, h_96, c_111, (eq_true h_114), hx_119, f_120, hx_121, if_true, if_false, mqM_tp, mqM_size, mqM_limit, mqM_to, mqM_frm, mqM_kind, mqM_number, mqM_sign, mqM_word, MT_.w_tp, MT_.w_size, MT_.w_limit, MT_.w_to, MT_.w_frm, MT_.w_kind, MT_.w_number, MT_.w_sign, MT_.w_word, nqM_rd, nqM_rn, nqM_taped, nqM_mfault, nqM_mplace, nqM_told, nqM_hl, nqM_hd, NR_.w_rd, NR_.w_rn, NR_.w_taped, NR_.w_mfault, NR_.w_mplace, NR_.w_told, NR_.w_hl, NR_.w_hd] at u_63); (try simp only [hx_65, f_66, h_67, c_93, h_96, c_111, (eq_true h_114), hx_119, f_120, hx_121, if_true, if_false, mqM_tp, mqM_size, mqM_limit, mqM_to, mqM_frm, mqM_kind, mqM_number, mqM_sign, mqM_word, MT_.w_tp, MT_.w_size, MT_.w_limit, MT_.w_to, MT_.w_frm, MT_.w_kind, MT_.w_number, MT_.w_sign, MT_.w_word, nqM_rd, nqM_rn, nqM_taped, nqM_mfault, nqM_mplace, nqM_told, nqM_hl, nqM_hd, NR_.w_rd, NR_.w_rn, NR_.w_taped, NR_.w_mfault, NR_.w_mplace, NR_.w_told, NR_.w_hl, NR_.w_hd] at u_64); simp only [emqx, hs_112, hs_6, enqx, hs_113, hs_7, hQ_61, hQ_62, u_63, u_64, hx_65, f_66, h_67, c_93, h_96, c_111, (eq_true h_114), hx_119, f_120, hx_121, if_true, if_false, mqM_tp, mqM_size, mqM_limit, mqM_to, mqM_frm, mqM_kind, mqM_number, mqM_sign, mqM_word, MT_.w_tp, MT_.w_size, MT_.w_limit, MT_.w_to, MT_.w_frm, MT_.w_kind, MT_.w_number, MT_.w_sign, MT_.w_word, nqM_rd, nqM_rn, nqM_taped, nqM_mfault, nqM_mplace, nqM_told, nqM_hl, nqM_hd, NR_.w_rd, NR_.w_rn, NR_.w_taped, NR_.w_mfault, NR_.w_mplace, NR_.w_told, NR_.w_hl, NR_.w_hd]
            have f_123 : s_113.taped = 0 := (congrArg NR_.taped hs_113).symm.trans (fq_at hFI_106 hLx hkx (by decide) (by decide) (fq_at hFI_88 hLx hkx (by decide) (by decide) q_54))
            exact g_zret (ty := .int) (r := x_121) B K rfl (rfl) ⟨hUI_106, hF_109, hG_110, rx_121, (by (try simp only [hx_65, f_66, h_67, c_93, h_96, c_111, (eq_true h_114), hx_119, f_120, hx_121, if_true, if_false, mqM_tp, mqM_size, mqM_limit, mqM_to, mqM_frm, mqM_kind, mqM_number, mqM_sign, mqM_word, MT_.w_tp, MT_.w_size, MT_.w_limit, MT_.w_to, MT_.w_frm, MT_.w_kind, MT_.w_number, MT_.w_sign, MT_.w_word, nqM_rd, nqM_rn, nqM_taped, nqM_mfault, nqM_mplace, nqM_told, nqM_hl, nqM_hd, NR_.w_rd, NR_.w_rn, NR_.w_taped, NR_.w_mfault, NR_.w_mplace, NR_.w_told, NR_.w_hl, NR_.w_hd] at hQ_61); (try simp only [hx_65, f_66, h_67, c_93, h_96, c_111, (eq_true h_114), hx_119, f_120, hx_121, if_true, if_false, mqM_tp, mqM_size, mqM_limit, mqM_to, mqM_frm, mqM_kind, mqM_number, mqM_sign, mqM_word, MT_.w_tp, MT_.w_size, MT_.w_limit, MT_.w_to, MT_.w_frm, MT_.w_kind, MT_.w_number, MT_.w_sign, MT_.w_word, nqM_rd, nqM_rn, nqM_taped, nqM_mfault, nqM_mplace, nqM_told, nqM_hl, nqM_hd, NR_.w_rd, NR_.w_rn, NR_.w_taped, NR_.w_mfault, NR_.w_mplace, NR_.w_told, NR_.w_hl, NR_.w_hd] at hQ_62); (try simp only [hx_65, f_66, h_67, c_93, h_96, c_111, (eq_true h_114), hx_119, f_120, hx_121, if_true, if_false, mqM_tp, mqM_size, mqM_limit, mqM_to, mqM_frm, mqM_kind, mqM_number, mqM_sign, mqM_word, MT_.w_tp, MT_.w_size, MT_.w_limit, MT_.w_to, MT_.w_frm, MT_.w_kind, MT_.w_number, MT_.w_sign, MT_.w_word, nqM_rd, nqM_rn, nqM_taped, nqM_mfault, nqM_mplace, nqM_told, nqM_hl, nqM_hd, NR_.w_rd, NR_.w_rn, NR_.w_taped, NR_.w_mfault, NR_.w_mplace, NR_.w_told, NR_.w_hl, NR_.w_hd] at u_63); (try simp only [hx_65, f_66, h_67, c_93, h_96, c_111, (eq_true h_114), hx_119, f_120, hx_121, if_true, if_false, mqM_tp, mqM_size, mqM_limit, mqM_to, mqM_frm, mqM_kind, mqM_number, mqM_sign, mqM_word, MT_.w_tp, MT_.w_size, MT_.w_limit, MT_.w_to, MT_.w_frm, MT_.w_kind, MT_.w_number, MT_.w_sign, MT_.w_word, nqM_rd, nqM_rn, nqM_taped, nqM_mfault, nqM_mplace, nqM_told, nqM_hl, nqM_hd, NR_.w_rd, NR_.w_rn, NR_.w_taped, NR_.w_mfault, NR_.w_mplace, NR_.w_told, NR_.w_hl, NR_.w_hd] at u_64); simp only [emqx, hs_112, hs_6, enqx, hs_113, hs_7, hQ_61, hQ_62, u_63, u_64, hx_65, f_66, h_67, c_93, h_96, c_111, (eq_true h_114), hx_119, f_120, hx_121, if_true, if_false, mqM_tp, mqM_size, mqM_limit, mqM_to, mqM_frm, mqM_kind, mqM_number, mqM_sign, mqM_word, MT_.w_tp, MT_.w_size, MT_.w_limit, MT_.w_to, MT_.w_frm, MT_.w_kind, MT_.w_number, MT_.w_sign, MT_.w_word, nqM_rd, nqM_rn, nqM_taped, nqM_mfault, nqM_mplace, nqM_told, nqM_hl, nqM_hd, NR_.w_rd, NR_.w_rn, NR_.w_taped, NR_.w_mfault, NR_.w_mplace, NR_.w_told, NR_.w_hl, NR_.w_hd]), (Or.inl ⟨tb_122, (hd_fq W9 hLx hkx (hd_fq W9 hLx hkx hd_57 hFI_88 (by decide)) hFI_106 (by decide))⟩), ((fq_at hFI_106 hLx hkx (by decide) (by decide) (fq_at hFI_88 hLx hkx (by decide) (by decide) q_54)))⟩ dX12_table_67
  have l_9 : ∀ (n_9 : Nat) (I_124 : Nat → Nat → Int32) (J_125 : Nat → Nat → Int64) (hU_126 : Iw L κ R ow I_124) (hF_127 : Fq L κ ow [1200, 1202, 1203, 1204, 1205, 1206, 1207, 1208, 1209, 1210, 1211, 1213, 1223, 1224, 1225, 83400, 83500] I I_124) (hG_128 : Fq L κ ow [1212, 83900, 84000] J J_125) (v_129 : Int32) (rv_129 : Rg 0 72 v_129) (q_130 : I_124 x 2 = 0) (hq_131 : ((MTq I_124 J_125 x b_5), mzr v_129 (NRq I_124 J_125 x b_2 b_1)) = mTz s_6 s_7) (hd_132 : Hd_ R x I I_124) (hm_133 : 72 < (v_129 : Int32).toInt + (n_9 : Int)), WG p l e { frames := 7, cells := 0, slots := 0, locals := 154 } s m ([.ref x] : List Value).toArray below meth c 3 0 0 (MQ below (Qi_ D cy L κ ln R (fun r I2 J2 => Iw L κ R ow I2 ∧ Fq L κ ow [1200, 1202, 1203, 1204, 1205, 1206, 1207, 1208, 1209, 1210, 1211, 1213, 1223, 1224, 1225, 83400, 83500] I I2 ∧ Fq L κ ow [1212, 83900, 84000] J J2 ∧ Rg (-2147483648) 2147483647 r ∧ (r = mTable (MTf R I J x) (NRf R I J x)) ∧ ((mTableB (MTf R I J x) (NRf R I J x) = none ∧ Hd_ R x I I2) ∨ Nt_ R x I2 (mTableB (MTf R I J x) (NRf R I J x))) ∧ ((I2 x 2) = 0))) ([.ref x] : List Value).toArray s 0 0 (Al_ L)) D cy (Al_ L) s.heap L κ ln R I_124 J_125 9 [(0, .ref x), (1, .int v_129)] [] := by
    intro n_9
    induction n_9 with
    | zero =>
      intro I_124 J_125 hU_126 hF_127 hG_128 v_129 rv_129 q_130 hq_131 hd_132 hm_133
      exact ms_0 rv_129 hm_133
    | succ n_9 ih_9 =>
      intro I_124 J_125 hU_126 hF_127 hG_128 v_129 rv_129 q_130 hq_131 hd_132 hm_133
      obtain ⟨s_134, hs_134⟩ : ∃ z, MTq I_124 J_125 x b_5 = z := ⟨_, rfl⟩
      obtain ⟨s_135, hs_135⟩ : ∃ z, NRq I_124 J_125 x b_2 b_1 = z := ⟨_, rfl⟩
      simp only [hs_134, hs_135] at hq_131
      have hQ_136 := hq_131.symm
      have u_137 := mzr_eq (i := v_129) (n := s_135) (rv_129)
      refine g_iload_n C 1 dX12_table_9 rfl rfl ?_
      refine g_bipush C (v := 72) dX12_table_10 (by decide) ?_
      refine g_icmp_ge C (tgt := 28) dX12_table_12 (by decide) (fun h_138 => ?_) (fun h_138 => ?_)
      · skip
        have r_139 := le_r (h_138) rc_72 rv_129
        refine g_aload_n C 0 dX12_table_28 rfl rfl ?_
        refine g_iconst C (v := 0) dX12_table_29 (by decide) ?_
        refine h_putZ C K hLx hkx f_12_197 p_12_24 (rg_bool (rg_w rc_0 (by decide) (by decide))) dX12_table_30 (fun I_140 hI_140 => ?_)
        have hU_141 := iw_put W9 hU_126 hI_140 (ro_o hkx (by decide)) (lo := 0) (hi := 1) (rfl) (rg_w rc_0 (by decide) (by decide)) rfl
        have hF_142 := fq_puto hF_127 hI_140 hkx (by decide) (by decide)
        have hs_143 : MTq I_140 J_125 x b_5 = s_134 := by rw [hI_140]; exact (mq_uIt wmqx (by decide)).trans hs_134
        have hs_144 : NRq I_140 J_125 x b_2 b_1 = (NR_.w_hl s_135 (0)) := by rw [hI_140]; exact ((nq_hl wnqx).trans (congrArg (fun z : NR_ => NR_.w_hl z (0)) hs_135)).trans rfl
        refine g_aload_n C 0 dX12_table_33 rfl rfl ?_
        refine g_iconst C (v := 0) dX12_table_34 (by decide) ?_
        refine h_putZ C K hLx hkx f_12_213 p_12_25 (rg_bool (rg_w rc_0 (by decide) (by decide))) dX12_table_35 (fun I_145 hI_145 => ?_)
        have hU_146 := iw_put W9 hU_141 hI_145 (ro_o hkx (by decide)) (lo := 0) (hi := 1) (rfl) (rg_w rc_0 (by decide) (by decide)) rfl
        have hF_147 := fq_puto hF_142 hI_145 hkx (by decide) (by decide)
        have hs_148 : MTq I_145 J_125 x b_5 = s_134 := by rw [hI_145]; exact (mq_uIt wmqx (by decide)).trans hs_143
        have hs_149 : NRq I_145 J_125 x b_2 b_1 = (NR_.w_hd (NR_.w_hl s_135 (0)) (0)) := by rw [hI_145]; exact ((nq_hd wnqx).trans (congrArg (fun z : NR_ => NR_.w_hd z (0)) hs_144)).trans rfl
        refine g_iconst C (v := 0) dX12_table_38 (by decide) ?_
        refine g_istore_n C dX12_table_39 rfl (by decide) (lo2 := [(1, .int 0), (0, .ref x)]) rfl ?_
        refine g_lo (is := [1, 0]) (lo2 := [(0, .ref x), (1, .int 0)]) rfl ?_
        exact l_40 941 I_145 J_125 hU_146 hF_147 hG_128 0 (kp_j hI_145 (by decide) (kp_j hI_140 (by decide) q_130)) (by (try simp only [h_138, if_true, if_false, mqM_tp, mqM_size, mqM_limit, mqM_to, mqM_frm, mqM_kind, mqM_number, mqM_sign, mqM_word, MT_.w_tp, MT_.w_size, MT_.w_limit, MT_.w_to, MT_.w_frm, MT_.w_kind, MT_.w_number, MT_.w_sign, MT_.w_word, nqM_rd, nqM_rn, nqM_taped, nqM_mfault, nqM_mplace, nqM_told, nqM_hl, nqM_hd, NR_.w_rd, NR_.w_rn, NR_.w_taped, NR_.w_mfault, NR_.w_mplace, NR_.w_told, NR_.w_hl, NR_.w_hd] at hQ_136); (try simp only [h_138, if_true, if_false, mqM_tp, mqM_size, mqM_limit, mqM_to, mqM_frm, mqM_kind, mqM_number, mqM_sign, mqM_word, MT_.w_tp, MT_.w_size, MT_.w_limit, MT_.w_to, MT_.w_frm, MT_.w_kind, MT_.w_number, MT_.w_sign, MT_.w_word, nqM_rd, nqM_rn, nqM_taped, nqM_mfault, nqM_mplace, nqM_told, nqM_hl, nqM_hd, NR_.w_rd, NR_.w_rn, NR_.w_taped, NR_.w_mfault, NR_.w_mplace, NR_.w_told, NR_.w_hl, NR_.w_hd] at u_137); simp only [mTable, mTbStart, emqx, hs_148, hs_6, enqx, hs_149, hs_7, hQ_136, u_137, h_138, if_true, if_false, mqM_tp, mqM_size, mqM_limit, mqM_to, mqM_frm, mqM_kind, mqM_number, mqM_sign, mqM_word, MT_.w_tp, MT_.w_size, MT_.w_limit, MT_.w_to, MT_.w_frm, MT_.w_kind, MT_.w_number, MT_.w_sign, MT_.w_word, nqM_rd, nqM_rn, nqM_taped, nqM_mfault, nqM_mplace, nqM_told, nqM_hl, nqM_hd, NR_.w_rd, NR_.w_rn, NR_.w_taped, NR_.w_mfault, NR_.w_mplace, NR_.w_told, NR_.w_hl, NR_.w_hd]) (by (try simp only [h_138, if_true, if_false, mqM_tp, mqM_size, mqM_limit, mqM_to, mqM_frm, mqM_kind, mqM_number, mqM_sign, mqM_word, MT_.w_tp, MT_.w_size, MT_.w_limit, MT_.w_to, MT_.w_frm, MT_.w_kind, MT_.w_number, MT_.w_sign, MT_.w_word, nqM_rd, nqM_rn, nqM_taped, nqM_mfault, nqM_mplace, nqM_told, nqM_hl, nqM_hd, NR_.w_rd, NR_.w_rn, NR_.w_taped, NR_.w_mfault, NR_.w_mplace, NR_.w_told, NR_.w_hl, NR_.w_hd] at hQ_136); (try simp only [h_138, if_true, if_false, mqM_tp, mqM_size, mqM_limit, mqM_to, mqM_frm, mqM_kind, mqM_number, mqM_sign, mqM_word, MT_.w_tp, MT_.w_size, MT_.w_limit, MT_.w_to, MT_.w_frm, MT_.w_kind, MT_.w_number, MT_.w_sign, MT_.w_word, nqM_rd, nqM_rn, nqM_taped, nqM_mfault, nqM_mplace, nqM_told, nqM_hl, nqM_hd, NR_.w_rd, NR_.w_rn, NR_.w_taped, NR_.w_mfault, NR_.w_mplace, NR_.w_told, NR_.w_hl, NR_.w_hd] at u_137); simp only [mTableB, mTbStart, emqx, hs_148, hs_6, enqx, hs_149, hs_7, hQ_136, u_137, h_138, if_true, if_false, mqM_tp, mqM_size, mqM_limit, mqM_to, mqM_frm, mqM_kind, mqM_number, mqM_sign, mqM_word, MT_.w_tp, MT_.w_size, MT_.w_limit, MT_.w_to, MT_.w_frm, MT_.w_kind, MT_.w_number, MT_.w_sign, MT_.w_word, nqM_rd, nqM_rn, nqM_taped, nqM_mfault, nqM_mplace, nqM_told, nqM_hl, nqM_hd, NR_.w_rd, NR_.w_rn, NR_.w_taped, NR_.w_mfault, NR_.w_mplace, NR_.w_told, NR_.w_hl, NR_.w_hd]) (hd_u (r := 0) W9 hLx hkx (hd_u (r := 0) W9 hLx hkx hd_132 hI_140 (Or.inl (ro_o hkx (by decide)))) hI_145 (Or.inl (ro_o hkx (by decide)))) (by obtain ⟨z, hz, rz⟩ := ex_getw (I := I_145) (a := x) (j := 5) (lo := 0) (hi := 940) hU_146.1 hLx (ro_o hkx (by decide)) rfl; rw [hz]; have := rz.1; omega)
      · skip
        have r_150 := lt_l (hi := 71) (nle h_138) rv_129 rc_72 (by decide)
        refine g_aload_n C 0 dX12_table_15 rfl rfl ?_
        refine g_getR C K hLx hkx f_12_16 hb_2 dX12_table_16 ?_
        refine g_iload_n C 1 dX12_table_19 rfl rfl ?_
        refine g_iconst C (v := 0) dX12_table_20 (by decide) ?_
        refine h_iast C K hb_2L hb_2k (v_129.toNatClampNeg) (rfl) (ix_0 r_150 (by decide)) (ix_lt r_150 (by decide) hb_2n (by decide)) dX12_table_21 (fun I_151 hI_151 => ?_)
        have hU_152 := iw_put0 W9 hU_126 hI_151 (ro_a hb_2k (by decide) hb_2o hkx rfl) (z0_in _) rfl
        have hF_153 := fq_puta hF_127 hI_151 (ro_a hb_2k (by decide) hb_2o hkx rfl) (by decide) (by decide)
        have hs_154 : MTq I_151 J_125 x b_5 = s_134 := by rw [hI_151]; exact (mq_oI wmqx (ro_a hb_2k (by decide) hb_2o hkx rfl) (by decide)).trans hs_134
        have hs_155 : NRq I_151 J_125 x b_2 b_1 = (NR_.w_rd s_135 (up1 (s_135.rd) (v_129.toNatClampNeg) (0))) := by rw [hI_151]; exact ((nq_rd wnqx).trans (congrArg (fun z : NR_ => NR_.w_rd z (up1 (z.rd) (v_129.toNatClampNeg) (0))) hs_135)).trans rfl
        obtain ⟨x_156, hx_156, rx_156, tx_156⟩ := ex_add (y := 1) 1 72 r_150 rc_1 (by decide) (by decide) (by decide) (by decide)
        refine g_iinc C dX12_table_22 (k := 1) (v := x_156) rfl hx_156 (by decide) (lo2 := [(1, .int x_156), (0, .ref x)]) rfl ?_
        refine g_goto C (tgt := 9) dX12_table_25 (by decide) ?_
        refine g_lo (is := [1, 0]) (lo2 := [(0, .ref x), (1, .int x_156)]) rfl ?_
        exact ih_9 I_151 J_125 hU_152 hF_153 hG_128 x_156 (rg_w rx_156 (by decide) (by decide)) (kp_k (κ := κ) hI_151 (by rw [hkx, hb_2k]; decide) q_130) (by (try simp only [h_138, (nle h_138), hx_156, if_true, if_false, mqM_tp, mqM_size, mqM_limit, mqM_to, mqM_frm, mqM_kind, mqM_number, mqM_sign, mqM_word, MT_.w_tp, MT_.w_size, MT_.w_limit, MT_.w_to, MT_.w_frm, MT_.w_kind, MT_.w_number, MT_.w_sign, MT_.w_word, nqM_rd, nqM_rn, nqM_taped, nqM_mfault, nqM_mplace, nqM_told, nqM_hl, nqM_hd, NR_.w_rd, NR_.w_rn, NR_.w_taped, NR_.w_mfault, NR_.w_mplace, NR_.w_told, NR_.w_hl, NR_.w_hd] at hQ_136); (try simp only [h_138, (nle h_138), hx_156, if_true, if_false, mqM_tp, mqM_size, mqM_limit, mqM_to, mqM_frm, mqM_kind, mqM_number, mqM_sign, mqM_word, MT_.w_tp, MT_.w_size, MT_.w_limit, MT_.w_to, MT_.w_frm, MT_.w_kind, MT_.w_number, MT_.w_sign, MT_.w_word, nqM_rd, nqM_rn, nqM_taped, nqM_mfault, nqM_mplace, nqM_told, nqM_hl, nqM_hd, NR_.w_rd, NR_.w_rn, NR_.w_taped, NR_.w_mfault, NR_.w_mplace, NR_.w_told, NR_.w_hl, NR_.w_hd] at u_137); simp only [emqx, hs_154, hs_6, enqx, hs_155, hs_7, hQ_136, u_137, h_138, (nle h_138), hx_156, if_true, if_false, mqM_tp, mqM_size, mqM_limit, mqM_to, mqM_frm, mqM_kind, mqM_number, mqM_sign, mqM_word, MT_.w_tp, MT_.w_size, MT_.w_limit, MT_.w_to, MT_.w_frm, MT_.w_kind, MT_.w_number, MT_.w_sign, MT_.w_word, nqM_rd, nqM_rn, nqM_taped, nqM_mfault, nqM_mplace, nqM_told, nqM_hl, nqM_hd, NR_.w_rd, NR_.w_rn, NR_.w_taped, NR_.w_mfault, NR_.w_mplace, NR_.w_told, NR_.w_hl, NR_.w_hd]) (hd_u  W9 hLx hkx hd_132 hI_151 (Or.inr (Or.inl ⟨(ro_a hb_2k (by decide) hb_2o hkx rfl), by decide⟩))) (ms_1 hm_133 (ti_k tx_156 rc_1) (by decide))
  refine g_aload_n C 0 dX12_table_0 rfl rfl ?_
  refine g_sipush C (v := 900) dX12_table_1 (by decide) ?_
  refine g_callVV C K (c_X12_begin_e W9 hLx hkx 900 (rg_w rc_900 (by decide) (by decide)) hU) hLx hkx (by decide) rfl v_12_216 rfl ⟨rfl, rfl⟩ ⟨Nat.le_of_ble_eq_true rfl, Nat.le_of_ble_eq_true rfl⟩ (Nat.le_of_ble_eq_true rfl) ⟨Nat.le_of_ble_eq_true rfl, Nat.le_of_ble_eq_true rfl⟩ dX12_table_4 rfl (st := []) (fun I_158 J_159 h_160 => ?_)
  obtain ⟨hUI_158, hFI_158, hGJ_159, fx_157, ex_157⟩ := h_160
  have hF_161 := fq_tr hF hFI_158 (by decide)
  have hG_162 := fq_tr hG hGJ_159 (by decide)
  obtain ⟨s_164, hs_164⟩ : ∃ z, MTq I_158 J_159 x b_5 = z := ⟨_, rfl⟩
  obtain ⟨s_165, hs_165⟩ : ∃ z, NRq I_158 J_159 x b_2 b_1 = z := ⟨_, rfl⟩
  have c_163 : mBegin (900) (s_6) (s_7) = (s_164, s_165) := by have q := fx_157; simp only [emqx, enqx, hs_6, hs_7, hs_164, hs_165] at q; exact q.symm
  refine g_iconst C (v := 0) dX12_table_7 (by decide) ?_
  refine g_istore_n C dX12_table_8 rfl (by decide) (lo2 := [(1, .int 0), (0, .ref x)]) rfl ?_
  refine g_lo (is := [1, 0]) (lo2 := [(0, .ref x), (1, .int 0)]) rfl ?_
  exact l_9 73 I_158 J_159 hUI_158 hF_161 hG_162 0 (rg_w rc_0 (by decide) (by decide)) ex_157 (by simp only [mTable, mTz, emqx, hs_164, hs_6, enqx, hs_165, hs_7, c_163, if_true, if_false, mqM_tp, mqM_size, mqM_limit, mqM_to, mqM_frm, mqM_kind, mqM_number, mqM_sign, mqM_word, MT_.w_tp, MT_.w_size, MT_.w_limit, MT_.w_to, MT_.w_frm, MT_.w_kind, MT_.w_number, MT_.w_sign, MT_.w_word, nqM_rd, nqM_rn, nqM_taped, nqM_mfault, nqM_mplace, nqM_told, nqM_hl, nqM_hd, NR_.w_rd, NR_.w_rn, NR_.w_taped, NR_.w_mfault, NR_.w_mplace, NR_.w_told, NR_.w_hl, NR_.w_hd]) (hd_fq W9 hLx hkx hd_rf hFI_158 (by decide)) (ms_s (a := 0) (b := 72) (N := 73) (rg_w rc_0 (by decide) (by decide)) (by decide))
set_option maxRecDepth 100000 in
set_option maxHeartbeats 8000000 in
theorem c_X12_eaters_e {l : Launch} {D : va_G} {cy : Nat → ClassId} {L : List Nat} {κ ln : Nat → Nat} {R : Nat → Nat → Option Nat} {I : Nat → Nat → Int32} {J : Nat → Nat → Int64} {ow : Nat → Nat × Nat} (W9 : ∀ a ∈ L, Shp L κ ln R ow a) {x : Nat} (hLx : x ∈ L) (hkx : κ x = 12) (hU : Iw L κ R ow I) : CtI l yX12_eaters cX12_eaters 6 (some .int) { frames := 2, cells := 0, slots := 0, locals := 43 } D cy L κ ln R I J [.ref x] (fun r I2 J2 => Iw L κ R ow I2 ∧ Fq L κ ow [1200, 1202, 1232, 1233, 85100] I I2 ∧ Fq L κ ow [] J J2 ∧ Rg (-2147483648) 2147483647 r ∧ ((I2 x 2) = 0)) := by
  refine CtI.of (by decide +kernel) (Nat.le_of_ble_eq_true rfl) ?_
  intro p e s m below meth c B K
  have C := B.1
  have hF : Fq L κ ow [1200, 1202, 1232, 1233, 85100] I I := fq_rf
  have hG : Fq L κ ow [] J J := fq_rf
  obtain ⟨b_1, hb_1, hb_1L, hb_1k, hb_1n, hb_1o⟩ := shp_a (W9 x hLx) hkx 31 14 7 rfl (by decide)
  obtain ⟨b_2, hb_2, hb_2L, hb_2k, hb_2n, hb_2o⟩ := shp_a (W9 x hLx) hkx 1 14 940 rfl (by decide)
  obtain ⟨b_3, hb_3, hb_3L, hb_3k, hb_3n, hb_3o⟩ := shp_a (W9 x hLx) hkx 14 14 389 rfl (by decide)
  refine g_lo (is := [0]) (lo2 := [(0, .ref x)]) rfl ?_
  have l_202 : ∀ (n_202 : Nat) (I_4 : Nat → Nat → Int32) (J_5 : Nat → Nat → Int64) (hU_6 : Iw L κ R ow I_4) (hF_7 : Fq L κ ow [1200, 1202, 1232, 1233, 85100] I I_4) (hG_8 : Fq L κ ow [] J J_5) (v_9 : Int32) (nv_9_0 : ¬ v_9 = 0) (v_10 : Int32) (rv_10 : Rg 0 127 v_10) (v_11 : Int32) (rv_11 : Rg 0 7 v_11) (v_12 : Int32) (rv_12 : Rg (-1) 6 v_12) (v_13 : Int32) (rv_13 : Rg 0 5 v_13) (q_14 : I_4 x 0 = 0) (q_15 : I_4 x 2 = 0) (q_16 : I_4 x 32 = v_10) (q_17 : I_4 x 33 = v_12) (q_18 : I_4 b_2 0 = v_13) (hm_19 : 7 < (v_11 : Int32).toInt + (n_202 : Int)), WG p l e { frames := 2, cells := 0, slots := 0, locals := 43 } s m ([.ref x] : List Value).toArray below meth c 6 0 0 (MQ below (Qi_ D cy L κ ln R (fun r I2 J2 => Iw L κ R ow I2 ∧ Fq L κ ow [1200, 1202, 1232, 1233, 85100] I I2 ∧ Fq L κ ow [] J J2 ∧ Rg (-2147483648) 2147483647 r ∧ ((I2 x 2) = 0))) ([.ref x] : List Value).toArray s 0 0 (Al_ L)) D cy (Al_ L) s.heap L κ ln R I_4 J_5 202 [(0, .ref x), (1, .int v_9), (2, .int v_10), (3, .int v_11)] [] := by
    intro n_202
    induction n_202 with
    | zero =>
      intro I_4 J_5 hU_6 hF_7 hG_8 v_9 nv_9_0 v_10 rv_10 v_11 rv_11 v_12 rv_12 v_13 rv_13 q_14 q_15 q_16 q_17 q_18 hm_19
      exact ms_0 rv_11 hm_19
    | succ n_202 ih_202 =>
      intro I_4 J_5 hU_6 hF_7 hG_8 v_9 nv_9_0 v_10 rv_10 v_11 rv_11 v_12 rv_12 v_13 rv_13 q_14 q_15 q_16 q_17 q_18 hm_19
      have j_257 : ∀ (I_20 : Nat → Nat → Int32) (J_21 : Nat → Nat → Int64) (hU_22 : Iw L κ R ow I_20) (hF_23 : Fq L κ ow [1200, 1202, 1232, 1233, 85100] I I_20) (hG_24 : Fq L κ ow [] J J_21) (v_25 : Int32) (nv_25_0 : ¬ v_25 = 0) (v_26 : Int32) (rv_26 : Rg 0 127 v_26) (v_27 : Int32) (rv_27 : Rg 0 6 v_27) (v_28 : Int32) (rv_28 : Rg 0 6 v_28) (nv_28_m1 : ¬ v_28 = (-1)) (v_29 : Int32) (rv_29 : Rg 0 5 v_29) (q_30 : I_20 x 0 = 0) (q_31 : I_20 x 2 = 0) (q_32 : I_20 x 32 = v_26) (q_33 : I_20 x 33 = v_28) (q_34 : I_20 b_2 0 = v_29) (hm_35 : 7 < (v_27 : Int32).toInt + ((n_202 + 1 : Nat) : Int)), WG p l e { frames := 2, cells := 0, slots := 0, locals := 43 } s m ([.ref x] : List Value).toArray below meth c 6 0 0 (MQ below (Qi_ D cy L κ ln R (fun r I2 J2 => Iw L κ R ow I2 ∧ Fq L κ ow [1200, 1202, 1232, 1233, 85100] I I2 ∧ Fq L κ ow [] J J2 ∧ Rg (-2147483648) 2147483647 r ∧ ((I2 x 2) = 0))) ([.ref x] : List Value).toArray s 0 0 (Al_ L)) D cy (Al_ L) s.heap L κ ln R I_20 J_21 257 [(0, .ref x), (1, .int v_25), (2, .int v_26), (3, .int v_27)] [] := by
        intro I_20 J_21 hU_22 hF_23 hG_24 v_25 nv_25_0 v_26 rv_26 v_27 rv_27 v_28 rv_28 nv_28_m1 v_29 rv_29 q_30 q_31 q_32 q_33 q_34 hm_35
        obtain ⟨x_36, hx_36, rx_36, tx_36⟩ := ex_add (y := 1) 1 7 rv_27 rc_1 (by decide) (by decide) (by decide) (by decide)
        refine g_iinc C dX12_eaters_257 (k := 3) (v := x_36) rfl hx_36 (by decide) (lo2 := [(3, .int x_36), (0, .ref x), (1, .int v_25), (2, .int v_26)]) rfl ?_
        refine g_goto C (tgt := 202) dX12_eaters_260 (by decide) ?_
        refine g_lo (is := [1, 2, 3, 0]) (lo2 := [(0, .ref x), (1, .int v_25), (2, .int v_26), (3, .int x_36)]) rfl ?_
        exact ih_202 I_20 J_21 hU_22 hF_23 hG_24 v_25 (nv_25_0) v_26 (rv_26) x_36 (rg_w rx_36 (by decide) (by decide)) v_28 (rg_w rv_28 (by decide) (by decide)) v_29 (rv_29) q_30 q_31 q_32 q_33 q_34 (ms_1 hm_35 (ti_k tx_36 rc_1) (by decide))
      have j_252 : ∀ (I_37 : Nat → Nat → Int32) (J_38 : Nat → Nat → Int64) (hU_39 : Iw L κ R ow I_37) (hF_40 : Fq L κ ow [1200, 1202, 1232, 1233, 85100] I I_37) (hG_41 : Fq L κ ow [] J J_38) (v_42 : Int32) (nv_42_0 : ¬ v_42 = 0) (v_43 : Int32) (rv_43 : Rg 0 127 v_43) (v_44 : Int32) (rv_44 : Rg 0 6 v_44) (v_45 : Int32) (rv_45 : Rg (-1) 6 v_45) (v_46 : Int32) (rv_46 : Rg 0 5 v_46) (q_47 : I_37 x 0 = 0) (q_48 : I_37 x 2 = 0) (q_49 : I_37 x 32 = v_43) (q_50 : I_37 x 33 = v_45) (q_51 : I_37 b_2 0 = v_46) (hm_52 : 7 < (v_44 : Int32).toInt + ((n_202 + 1 : Nat) : Int)), WG p l e { frames := 2, cells := 0, slots := 0, locals := 43 } s m ([.ref x] : List Value).toArray below meth c 6 0 0 (MQ below (Qi_ D cy L κ ln R (fun r I2 J2 => Iw L κ R ow I2 ∧ Fq L κ ow [1200, 1202, 1232, 1233, 85100] I I2 ∧ Fq L κ ow [] J J2 ∧ Rg (-2147483648) 2147483647 r ∧ ((I2 x 2) = 0))) ([.ref x] : List Value).toArray s 0 0 (Al_ L)) D cy (Al_ L) s.heap L κ ln R I_37 J_38 252 [(0, .ref x), (1, .int v_42), (2, .int v_43), (3, .int v_44)] [] := by
        intro I_37 J_38 hU_39 hF_40 hG_41 v_42 nv_42_0 v_43 rv_43 v_44 rv_44 v_45 rv_45 v_46 rv_46 q_47 q_48 q_49 q_50 q_51 hm_52
        refine g_aload_n C 0 dX12_eaters_252 rfl rfl ?_
        refine g_iload_n C 3 dX12_eaters_253 rfl rfl ?_
        refine h_putI C K hLx hkx f_12_58 p_12_33 dX12_eaters_254 (fun I_53 hI_53 => ?_)
        have hU_54 := iw_put W9 hU_39 hI_53 (ro_o hkx (by decide)) (lo := (-2147483648)) (hi := 2147483647) (rfl) (rg_all _) rfl
        have hF_55 := fq_puto hF_40 hI_53 hkx (by decide) (by decide)
        refine g_lo (is := [0, 1, 2, 3]) (lo2 := [(0, .ref x), (1, .int v_42), (2, .int v_43), (3, .int v_44)]) rfl ?_
        exact j_257 I_53 J_38 hU_54 hF_55 hG_41 v_42 (nv_42_0) v_43 (rv_43) v_44 (rv_44) v_44 (rv_44) (rg_nek rv_44 rc_m1 (by decide)) v_46 (rv_46) (kp_j hI_53 (by decide) q_47) (kp_j hI_53 (by decide) q_48) (kp_j hI_53 (by decide) q_49) (kp_s hI_53) (kp_k (κ := κ) hI_53 (by rw [hb_2k, hkx]; decide) q_51) hm_52
      refine g_iload_n C 3 dX12_eaters_202 rfl rfl ?_
      refine g_aload_n C 0 dX12_eaters_203 rfl rfl ?_
      refine g_getR C K hLx hkx f_12_13 hb_3 dX12_eaters_204 ?_
      refine g_iconst C (v := 0) dX12_eaters_207 (by decide) ?_
      obtain ⟨x_56, hx_56, rx_56⟩ := ex_getw (I := I_4) (a := b_3) (j := 0) (lo := 0) (hi := 7) hU_6.1 hb_3L (ro_a hb_3k (by decide) hb_3o hkx rfl) (by decide)
      refine h_iald C K hb_3L hb_3k (v := x_56) (0) (by decide) (by decide) (by rw [hb_3n]; decide) hx_56 dX12_eaters_208 ?_
      refine g_icmp_ge C (tgt := 263) dX12_eaters_209 (by decide) (fun h_57 => ?_) (fun h_57 => ?_)
      · skip
        refine g_iload_n C 1 dX12_eaters_263 rfl rfl ?_
        exact g_zret (ty := .int) (r := v_9) B K rfl (rfl) ⟨hU_6, hF_7, hG_8, (rg_all v_9), (q_15)⟩ dX12_eaters_264
      · skip
        have r_58 := lt_l (hi := 6) (nle h_57) rv_11 rx_56 (by decide)
        have r_59 := lt_r (lo := 1) (nle h_57) rv_11 rx_56 (by decide)
        refine g_aload_n C 0 dX12_eaters_212 rfl rfl ?_
        refine g_getI C K hLx hkx f_12_58 (v := v_12) q_17 dX12_eaters_213 ?_
        refine g_iconst C (v := (-1)) dX12_eaters_216 (by decide) ?_
        refine g_icmp_eq C (tgt := 252) dX12_eaters_217 (by decide) (fun h_60 => ?_) (fun h_60 => ?_)
        · skip
          have r_61 := (⟨(rv_12).1, (eq_rg (h_60) rc_m1).2⟩ : Rg (-1) (-1) v_12)
          refine g_lo (is := [0, 1, 2, 3]) (lo2 := [(0, .ref x), (1, .int v_9), (2, .int v_10), (3, .int v_11)]) rfl ?_
          exact j_252 I_4 J_5 hU_6 hF_7 hG_8 v_9 (nv_9_0) v_10 (rv_10) v_11 (r_58) v_12 (rg_w r_61 (by decide) (by decide)) v_13 (rv_13) q_14 q_15 q_16 q_17 q_18 hm_19
        · skip
          have n_62 : ¬ v_12 = (-1) := h_60
          have r_63 := ne_lo (lo := 0) n_62 rv_12 rc_m1 rfl (by decide)
          refine g_iconst C (v := 2) dX12_eaters_220 (by decide) ?_
          refine g_aload_n C 0 dX12_eaters_221 rfl rfl ?_
          refine g_getR C K hLx hkx f_12_51 hb_1 dX12_eaters_222 ?_
          refine g_iload_n C 3 dX12_eaters_225 rfl rfl ?_
          obtain ⟨x_64, hx_64, rx_64⟩ := ex_any (z0 := I_4 b_1 (v_11.toNatClampNeg))
          refine h_iald C K hb_1L hb_1k (v := x_64) (v_11.toNatClampNeg) (rfl) (ix_0 r_58 (by decide)) (ix_lt r_58 (by decide) hb_1n (by decide)) hx_64 dX12_eaters_226 ?_
          obtain ⟨x_65, hx_65, rx_65⟩ := ex_any (z0 := 2 * x_64)
          refine g_imul C (v := x_65) dX12_eaters_227 hx_65 ?_
          refine g_iload_n C 1 dX12_eaters_228 rfl rfl ?_
          obtain ⟨x_66, hx_66, rx_66⟩ := ex_any (z0 := x_65 - v_9)
          refine g_isub C (v := x_66) dX12_eaters_229 hx_66 ?_
          refine g_callSI C K (c_X12_size W9 x_66  hU_6) s_12_318 rfl ⟨rfl, rfl⟩ ⟨Nat.le_of_ble_eq_true rfl, Nat.le_of_ble_eq_true rfl⟩ (Nat.le_of_ble_eq_true rfl) ⟨Nat.le_of_ble_eq_true rfl, Nat.le_of_ble_eq_true rfl⟩ dX12_eaters_230 rfl (st := []) (fun x_67 I_68 J_69 h_70 => ?_)
          obtain ⟨rfl, rfl, rx_67⟩ := h_70
          refine g_iconst C (v := 2) dX12_eaters_233 (by decide) ?_
          refine g_aload_n C 0 dX12_eaters_234 rfl rfl ?_
          refine g_getR C K hLx hkx f_12_51 hb_1 dX12_eaters_235 ?_
          refine g_aload_n C 0 dX12_eaters_238 rfl rfl ?_
          refine g_getI C K hLx hkx f_12_58 (v := v_12) q_17 dX12_eaters_239 ?_
          obtain ⟨x_71, hx_71, rx_71⟩ := ex_any (z0 := I_4 b_1 (v_12.toNatClampNeg))
          refine h_iald C K hb_1L hb_1k (v := x_71) (v_12.toNatClampNeg) (rfl) (ix_0 r_63 (by decide)) (ix_lt r_63 (by decide) hb_1n (by decide)) hx_71 dX12_eaters_242 ?_
          obtain ⟨x_72, hx_72, rx_72⟩ := ex_any (z0 := 2 * x_71)
          refine g_imul C (v := x_72) dX12_eaters_243 hx_72 ?_
          refine g_iload_n C 1 dX12_eaters_244 rfl rfl ?_
          obtain ⟨x_73, hx_73, rx_73⟩ := ex_any (z0 := x_72 - v_9)
          refine g_isub C (v := x_73) dX12_eaters_245 hx_73 ?_
          refine g_callSI C K (c_X12_size W9 x_73  hU_6) s_12_318 rfl ⟨rfl, rfl⟩ ⟨Nat.le_of_ble_eq_true rfl, Nat.le_of_ble_eq_true rfl⟩ (Nat.le_of_ble_eq_true rfl) ⟨Nat.le_of_ble_eq_true rfl, Nat.le_of_ble_eq_true rfl⟩ dX12_eaters_246 rfl (st := [.int x_67]) (fun x_74 I_75 J_76 h_77 => ?_)
          obtain ⟨rfl, rfl, rx_74⟩ := h_77
          refine g_icmp_ge C (tgt := 257) dX12_eaters_249 (by decide) (fun h_78 => ?_) (fun h_78 => ?_)
          · skip
            refine g_lo (is := [0, 1, 2, 3]) (lo2 := [(0, .ref x), (1, .int v_9), (2, .int v_10), (3, .int v_11)]) rfl ?_
            exact j_257 I_4 J_5 hU_6 hF_7 hG_8 v_9 (nv_9_0) v_10 (rv_10) v_11 (r_58) v_12 (r_63) (n_62) v_13 (rv_13) q_14 q_15 q_16 q_17 q_18 hm_19
          · skip
            have r_79 := lt_l (hi := 2147483646) (nle h_78) rx_67 rx_74 (by decide)
            have r_80 := lt_r (lo := (-2147483647)) (nle h_78) rx_67 rx_74 (by decide)
            refine g_lo (is := [0, 1, 2, 3]) (lo2 := [(0, .ref x), (1, .int v_9), (2, .int v_10), (3, .int v_11)]) rfl ?_
            exact j_252 I_4 J_5 hU_6 hF_7 hG_8 v_9 (nv_9_0) v_10 (rv_10) v_11 (r_58) v_12 (rg_w r_63 (by decide) (by decide)) v_13 (rv_13) q_14 q_15 q_16 q_17 q_18 hm_19
  have l_64 : ∀ (n_64 : Nat) (I_81 : Nat → Nat → Int32) (J_82 : Nat → Nat → Int64) (hU_83 : Iw L κ R ow I_81) (hF_84 : Fq L κ ow [1200, 1202, 1232, 1233, 85100] I I_81) (hG_85 : Fq L κ ow [] J J_82) (v_86 : Int32) (v_87 : Int32) (rv_87 : Rg 0 127 v_87) (v_88 : Int32) (rv_88 : Rg 0 128 v_88) (v_89 : Int32) (rv_89 : Rg 0 5 v_89) (q_90 : I_81 x 0 = 0) (q_91 : I_81 x 2 = 0) (q_92 : I_81 b_2 0 = v_89) (hm_93 : 128 < (v_88 : Int32).toInt + (n_64 : Int)), WG p l e { frames := 2, cells := 0, slots := 0, locals := 43 } s m ([.ref x] : List Value).toArray below meth c 6 0 0 (MQ below (Qi_ D cy L κ ln R (fun r I2 J2 => Iw L κ R ow I2 ∧ Fq L κ ow [1200, 1202, 1232, 1233, 85100] I I2 ∧ Fq L κ ow [] J J2 ∧ Rg (-2147483648) 2147483647 r ∧ ((I2 x 2) = 0))) ([.ref x] : List Value).toArray s 0 0 (Al_ L)) D cy (Al_ L) s.heap L κ ln R I_81 J_82 64 [(0, .ref x), (1, .int v_86), (2, .int v_87), (3, .int v_88)] [] := by
    intro n_64
    induction n_64 with
    | zero =>
      intro I_81 J_82 hU_83 hF_84 hG_85 v_86 v_87 rv_87 v_88 rv_88 v_89 rv_89 q_90 q_91 q_92 hm_93
      exact ms_0 rv_88 hm_93
    | succ n_64 ih_64 =>
      intro I_81 J_82 hU_83 hF_84 hG_85 v_86 v_87 rv_87 v_88 rv_88 v_89 rv_89 q_90 q_91 q_92 hm_93
      have j_178 : ∀ (I_94 : Nat → Nat → Int32) (J_95 : Nat → Nat → Int64) (hU_96 : Iw L κ R ow I_94) (hF_97 : Fq L κ ow [1200, 1202, 1232, 1233, 85100] I I_94) (hG_98 : Fq L κ ow [] J J_95) (v_99 : Int32) (v_100 : Int32) (rv_100 : Rg 0 127 v_100) (v_101 : Int32) (rv_101 : Rg 0 127 v_101) (v_102 : Int32) (v_103 : Int32) (rv_103 : Rg 7 7 v_103) (v_104 : Int32) (rv_104 : Rg 0 5 v_104) (q_105 : I_94 x 0 = 0) (q_106 : I_94 x 2 = 0) (q_107 : I_94 b_2 0 = v_104) (hm_108 : 128 < (v_101 : Int32).toInt + ((n_64 + 1 : Nat) : Int)), WG p l e { frames := 2, cells := 0, slots := 0, locals := 43 } s m ([.ref x] : List Value).toArray below meth c 6 0 0 (MQ below (Qi_ D cy L κ ln R (fun r I2 J2 => Iw L κ R ow I2 ∧ Fq L κ ow [1200, 1202, 1232, 1233, 85100] I I2 ∧ Fq L κ ow [] J J2 ∧ Rg (-2147483648) 2147483647 r ∧ ((I2 x 2) = 0))) ([.ref x] : List Value).toArray s 0 0 (Al_ L)) D cy (Al_ L) s.heap L κ ln R I_94 J_95 178 [(0, .ref x), (1, .int v_99), (2, .int v_100), (3, .int v_101), (4, .int v_102), (5, .int v_103)] [] := by
        intro I_94 J_95 hU_96 hF_97 hG_98 v_99 v_100 rv_100 v_101 rv_101 v_102 v_103 rv_103 v_104 rv_104 q_105 q_106 q_107 hm_108
        obtain ⟨x_109, hx_109, rx_109, tx_109⟩ := ex_add (y := 1) 1 128 rv_101 rc_1 (by decide) (by decide) (by decide) (by decide)
        refine g_iinc C dX12_eaters_178 (k := 3) (v := x_109) rfl hx_109 (by decide) (lo2 := [(3, .int x_109), (0, .ref x), (1, .int v_99), (2, .int v_100), (4, .int v_102), (5, .int v_103)]) rfl ?_
        refine g_goto C (tgt := 64) dX12_eaters_181 (by decide) ?_
        refine g_lo (is := [1, 2, 3, 0]) (lo2 := [(0, .ref x), (1, .int v_99), (2, .int v_100), (3, .int x_109)]) rfl ?_
        exact ih_64 I_94 J_95 hU_96 hF_97 hG_98 v_99 v_100 (rv_100) x_109 (rg_w rx_109 (by decide) (by decide)) v_104 (rv_104) q_105 q_106 q_107 (ms_1 hm_108 (ti_k tx_109 rc_1) (by decide))
      have l_145 : ∀ (n_145 : Nat) (I_110 : Nat → Nat → Int32) (J_111 : Nat → Nat → Int64) (hU_112 : Iw L κ R ow I_110) (hF_113 : Fq L κ ow [1200, 1202, 1232, 1233, 85100] I I_110) (hG_114 : Fq L κ ow [] J J_111) (v_115 : Int32) (v_116 : Int32) (rv_116 : Rg 0 127 v_116) (v_117 : Int32) (rv_117 : Rg 0 127 v_117) (v_118 : Int32) (rv_118 : Rg 0 255 v_118) (v_119 : Int32) (rv_119 : Rg 0 7 v_119) (v_120 : Int32) (rv_120 : Rg 0 5 v_120) (q_121 : I_110 x 0 = 0) (q_122 : I_110 x 2 = 0) (q_123 : I_110 b_2 0 = v_120) (hm_124 : 128 < (v_117 : Int32).toInt + ((n_64 + 1 : Nat) : Int)) (hm_125 : 7 < (v_119 : Int32).toInt + (n_145 : Int)), WG p l e { frames := 2, cells := 0, slots := 0, locals := 43 } s m ([.ref x] : List Value).toArray below meth c 6 0 0 (MQ below (Qi_ D cy L κ ln R (fun r I2 J2 => Iw L κ R ow I2 ∧ Fq L κ ow [1200, 1202, 1232, 1233, 85100] I I2 ∧ Fq L κ ow [] J J2 ∧ Rg (-2147483648) 2147483647 r ∧ ((I2 x 2) = 0))) ([.ref x] : List Value).toArray s 0 0 (Al_ L)) D cy (Al_ L) s.heap L κ ln R I_110 J_111 145 [(0, .ref x), (1, .int v_115), (2, .int v_116), (3, .int v_117), (4, .int v_118), (5, .int v_119)] [] := by
        intro n_145
        induction n_145 with
        | zero =>
          intro I_110 J_111 hU_112 hF_113 hG_114 v_115 v_116 rv_116 v_117 rv_117 v_118 rv_118 v_119 rv_119 v_120 rv_120 q_121 q_122 q_123 hm_124 hm_125
          exact ms_0 rv_119 hm_125
        | succ n_145 ih_145 =>
          intro I_110 J_111 hU_112 hF_113 hG_114 v_115 v_116 rv_116 v_117 rv_117 v_118 rv_118 v_119 rv_119 v_120 rv_120 q_121 q_122 q_123 hm_124 hm_125
          have j_172 : ∀ (I_126 : Nat → Nat → Int32) (J_127 : Nat → Nat → Int64) (hU_128 : Iw L κ R ow I_126) (hF_129 : Fq L κ ow [1200, 1202, 1232, 1233, 85100] I I_126) (hG_130 : Fq L κ ow [] J J_127) (v_131 : Int32) (v_132 : Int32) (rv_132 : Rg 0 127 v_132) (v_133 : Int32) (rv_133 : Rg 0 127 v_133) (v_134 : Int32) (rv_134 : Rg 0 255 v_134) (v_135 : Int32) (rv_135 : Rg 0 6 v_135) (v_136 : Int32) (rv_136 : Rg 0 5 v_136) (q_137 : I_126 x 0 = 0) (q_138 : I_126 x 2 = 0) (q_139 : I_126 b_2 0 = v_136) (hm_140 : 128 < (v_133 : Int32).toInt + ((n_64 + 1 : Nat) : Int)) (hm_141 : 7 < (v_135 : Int32).toInt + ((n_145 + 1 : Nat) : Int)), WG p l e { frames := 2, cells := 0, slots := 0, locals := 43 } s m ([.ref x] : List Value).toArray below meth c 6 0 0 (MQ below (Qi_ D cy L κ ln R (fun r I2 J2 => Iw L κ R ow I2 ∧ Fq L κ ow [1200, 1202, 1232, 1233, 85100] I I2 ∧ Fq L κ ow [] J J2 ∧ Rg (-2147483648) 2147483647 r ∧ ((I2 x 2) = 0))) ([.ref x] : List Value).toArray s 0 0 (Al_ L)) D cy (Al_ L) s.heap L κ ln R I_126 J_127 172 [(0, .ref x), (1, .int v_131), (2, .int v_132), (3, .int v_133), (4, .int v_134), (5, .int v_135)] [] := by
            intro I_126 J_127 hU_128 hF_129 hG_130 v_131 v_132 rv_132 v_133 rv_133 v_134 rv_134 v_135 rv_135 v_136 rv_136 q_137 q_138 q_139 hm_140 hm_141
            obtain ⟨x_142, hx_142, rx_142, tx_142⟩ := ex_add (y := 1) 1 7 rv_135 rc_1 (by decide) (by decide) (by decide) (by decide)
            refine g_iinc C dX12_eaters_172 (k := 5) (v := x_142) rfl hx_142 (by decide) (lo2 := [(5, .int x_142), (0, .ref x), (1, .int v_131), (2, .int v_132), (3, .int v_133), (4, .int v_134)]) rfl ?_
            refine g_goto C (tgt := 145) dX12_eaters_175 (by decide) ?_
            refine g_lo (is := [1, 2, 3, 4, 5, 0]) (lo2 := [(0, .ref x), (1, .int v_131), (2, .int v_132), (3, .int v_133), (4, .int v_134), (5, .int x_142)]) rfl ?_
            exact ih_145 I_126 J_127 hU_128 hF_129 hG_130 v_131 v_132 (rv_132) v_133 (rv_133) v_134 (rv_134) x_142 (rg_w rx_142 (by decide) (by decide)) v_136 (rv_136) q_137 q_138 q_139 hm_140 (ms_1 hm_141 (ti_k tx_142 rc_1) (by decide))
          refine g_iload C 5 dX12_eaters_145 rfl ?_
          refine g_bipush C (v := 7) dX12_eaters_147 (by decide) ?_
          refine g_icmp_ge C (tgt := 178) dX12_eaters_149 (by decide) (fun h_143 => ?_) (fun h_143 => ?_)
          · skip
            have r_144 := le_r (h_143) rc_7 rv_119
            refine g_lo (is := [0, 1, 2, 3, 4, 5]) (lo2 := [(0, .ref x), (1, .int v_115), (2, .int v_116), (3, .int v_117), (4, .int v_118), (5, .int v_119)]) rfl ?_
            exact j_178 I_110 J_111 hU_112 hF_113 hG_114 v_115 v_116 (rv_116) v_117 (rv_117) v_118 v_119 (r_144) v_120 (rv_120) q_121 q_122 q_123 hm_124
          · skip
            have r_145 := lt_l (hi := 6) (nle h_143) rv_119 rc_7 (by decide)
            refine g_iload_n C 3 dX12_eaters_152 rfl rfl ?_
            refine g_iload C 5 dX12_eaters_153 rfl ?_
            refine g_callSI C K (c_X12_has W9 v_117 v_119  hU_112) s_12_231 rfl ⟨rfl, rfl⟩ ⟨Nat.le_of_ble_eq_true rfl, Nat.le_of_ble_eq_true rfl⟩ (Nat.le_of_ble_eq_true rfl) ⟨Nat.le_of_ble_eq_true rfl, Nat.le_of_ble_eq_true rfl⟩ dX12_eaters_155 rfl (st := []) (fun x_146 I_147 J_148 h_149 => ?_)
            obtain ⟨rfl, rfl, rx_146, fx_146, ex_146⟩ := h_149
            refine g_if_eq C (tgt := 172) dX12_eaters_158 (by decide) (fun h_150 => ?_) (fun h_150 => ?_)
            · skip
              have r_151 := (⟨(rx_146).1, (eq_rg (h_150) rc_0).2⟩ : Rg 0 0 x_146)
              refine g_lo (is := [0, 1, 2, 3, 4, 5]) (lo2 := [(0, .ref x), (1, .int v_115), (2, .int v_116), (3, .int v_117), (4, .int v_118), (5, .int v_119)]) rfl ?_
              exact j_172 I_110 J_111 hU_112 hF_113 hG_114 v_115 v_116 (rv_116) v_117 (rv_117) v_118 (rv_118) v_119 (r_145) v_120 (rv_120) q_121 q_122 q_123 hm_124 hm_125
            · skip
              have n_152 : ¬ x_146 = 0 := h_150
              have r_153 := ne_lo (lo := 1) n_152 rx_146 rc_0 rfl (by decide)
              refine g_aload_n C 0 dX12_eaters_161 rfl rfl ?_
              refine g_getR C K hLx hkx f_12_51 hb_1 dX12_eaters_162 ?_
              refine g_iload C 5 dX12_eaters_165 rfl ?_
              refine g_dup2 C dX12_eaters_167 rfl rfl ?_
              obtain ⟨x_154, hx_154, rx_154⟩ := ex_any (z0 := I_110 b_1 (v_119.toNatClampNeg))
              refine h_iald C K hb_1L hb_1k (v := x_154) (v_119.toNatClampNeg) (rfl) (ix_0 r_145 (by decide)) (ix_lt r_145 (by decide) hb_1n (by decide)) hx_154 dX12_eaters_168 ?_
              refine g_iconst C (v := 1) dX12_eaters_169 (by decide) ?_
              obtain ⟨x_155, hx_155, rx_155⟩ := ex_any (z0 := x_154 + 1)
              refine g_iadd C (v := x_155) dX12_eaters_170 hx_155 ?_
              refine h_iast C K hb_1L hb_1k (v_119.toNatClampNeg) (rfl) (ix_0 r_145 (by decide)) (ix_lt r_145 (by decide) hb_1n (by decide)) dX12_eaters_171 (fun I_156 hI_156 => ?_)
              have hU_157 := iw_put W9 hU_112 hI_156 (ro_a hb_1k (by decide) hb_1o hkx rfl) (lo := (-2147483648)) (hi := 2147483647) (rfl) (rx_155) rfl
              have hF_158 := fq_puta hF_113 hI_156 (ro_a hb_1k (by decide) hb_1o hkx rfl) (by decide) (by decide)
              refine g_lo (is := [0, 1, 2, 3, 4, 5]) (lo2 := [(0, .ref x), (1, .int v_115), (2, .int v_116), (3, .int v_117), (4, .int v_118), (5, .int v_119)]) rfl ?_
              exact j_172 I_156 J_111 hU_157 hF_158 hG_114 v_115 v_116 (rv_116) v_117 (rv_117) v_118 (rv_118) v_119 (r_145) v_120 (rv_120) (kp_k (κ := κ) hI_156 (by rw [hkx, hb_1k]; decide) q_121) (kp_k (κ := κ) hI_156 (by rw [hkx, hb_1k]; decide) q_122) (kp_r hI_156 (ro_a hb_2k (by decide) hb_2o hkx rfl) (ro_a hb_1k (by decide) hb_1o hkx rfl) (by decide) q_123) hm_124 hm_125
      have l_82 : ∀ (n_82 : Nat) (I_159 : Nat → Nat → Int32) (J_160 : Nat → Nat → Int64) (hU_161 : Iw L κ R ow I_159) (hF_162 : Fq L κ ow [1200, 1202, 1232, 1233, 85100] I I_159) (hG_163 : Fq L κ ow [] J J_160) (v_164 : Int32) (v_165 : Int32) (rv_165 : Rg 0 127 v_165) (v_166 : Int32) (rv_166 : Rg 0 127 v_166) (v_167 : Int32) (v_168 : Int32) (rv_168 : Rg 0 7 v_168) (v_169 : Int32) (rv_169 : Rg 0 5 v_169) (q_170 : I_159 x 0 = 0) (q_171 : I_159 x 2 = 0) (q_172 : I_159 b_2 0 = v_169) (hm_173 : 128 < (v_166 : Int32).toInt + ((n_64 + 1 : Nat) : Int)) (hm_174 : 7 < (v_168 : Int32).toInt + (n_82 : Int)), WG p l e { frames := 2, cells := 0, slots := 0, locals := 43 } s m ([.ref x] : List Value).toArray below meth c 6 0 0 (MQ below (Qi_ D cy L κ ln R (fun r I2 J2 => Iw L κ R ow I2 ∧ Fq L κ ow [1200, 1202, 1232, 1233, 85100] I I2 ∧ Fq L κ ow [] J J2 ∧ Rg (-2147483648) 2147483647 r ∧ ((I2 x 2) = 0))) ([.ref x] : List Value).toArray s 0 0 (Al_ L)) D cy (Al_ L) s.heap L κ ln R I_159 J_160 82 [(0, .ref x), (1, .int v_164), (2, .int v_165), (3, .int v_166), (4, .int v_167), (5, .int v_168)] [] := by
        intro n_82
        induction n_82 with
        | zero =>
          intro I_159 J_160 hU_161 hF_162 hG_163 v_164 v_165 rv_165 v_166 rv_166 v_167 v_168 rv_168 v_169 rv_169 q_170 q_171 q_172 hm_173 hm_174
          exact ms_0 rv_168 hm_174
        | succ n_82 ih_82 =>
          intro I_159 J_160 hU_161 hF_162 hG_163 v_164 v_165 rv_165 v_166 rv_166 v_167 v_168 rv_168 v_169 rv_169 q_170 q_171 q_172 hm_173 hm_174
          have j_115 : ∀ (I_175 : Nat → Nat → Int32) (J_176 : Nat → Nat → Int64) (hU_177 : Iw L κ R ow I_175) (hF_178 : Fq L κ ow [1200, 1202, 1232, 1233, 85100] I I_175) (hG_179 : Fq L κ ow [] J J_176) (v_180 : Int32) (v_181 : Int32) (rv_181 : Rg 0 127 v_181) (v_182 : Int32) (rv_182 : Rg 0 127 v_182) (v_183 : Int32) (v_184 : Int32) (rv_184 : Rg 0 6 v_184) (v_185 : Int32) (rv_185 : Rg 0 5 v_185) (q_186 : I_175 x 0 = 0) (q_187 : I_175 x 2 = 0) (q_188 : I_175 b_2 0 = v_185) (hm_189 : 128 < (v_182 : Int32).toInt + ((n_64 + 1 : Nat) : Int)) (hm_190 : 7 < (v_184 : Int32).toInt + ((n_82 + 1 : Nat) : Int)), WG p l e { frames := 2, cells := 0, slots := 0, locals := 43 } s m ([.ref x] : List Value).toArray below meth c 6 0 0 (MQ below (Qi_ D cy L κ ln R (fun r I2 J2 => Iw L κ R ow I2 ∧ Fq L κ ow [1200, 1202, 1232, 1233, 85100] I I2 ∧ Fq L κ ow [] J J2 ∧ Rg (-2147483648) 2147483647 r ∧ ((I2 x 2) = 0))) ([.ref x] : List Value).toArray s 0 0 (Al_ L)) D cy (Al_ L) s.heap L κ ln R I_175 J_176 115 [(0, .ref x), (1, .int v_180), (2, .int v_181), (3, .int v_182), (4, .int v_183), (5, .int v_184)] [] := by
            intro I_175 J_176 hU_177 hF_178 hG_179 v_180 v_181 rv_181 v_182 rv_182 v_183 v_184 rv_184 v_185 rv_185 q_186 q_187 q_188 hm_189 hm_190
            obtain ⟨x_191, hx_191, rx_191, tx_191⟩ := ex_add (y := 1) 1 7 rv_184 rc_1 (by decide) (by decide) (by decide) (by decide)
            refine g_iinc C dX12_eaters_115 (k := 5) (v := x_191) rfl hx_191 (by decide) (lo2 := [(5, .int x_191), (0, .ref x), (1, .int v_180), (2, .int v_181), (3, .int v_182), (4, .int v_183)]) rfl ?_
            refine g_goto C (tgt := 82) dX12_eaters_118 (by decide) ?_
            refine g_lo (is := [1, 2, 3, 4, 5, 0]) (lo2 := [(0, .ref x), (1, .int v_180), (2, .int v_181), (3, .int v_182), (4, .int v_183), (5, .int x_191)]) rfl ?_
            exact ih_82 I_175 J_176 hU_177 hF_178 hG_179 v_180 v_181 (rv_181) v_182 (rv_182) v_183 x_191 (rg_w rx_191 (by decide) (by decide)) v_185 (rv_185) q_186 q_187 q_188 hm_189 (ms_1 hm_190 (ti_k tx_191 rc_1) (by decide))
          refine g_iload C 5 dX12_eaters_82 rfl ?_
          refine g_bipush C (v := 7) dX12_eaters_84 (by decide) ?_
          refine g_icmp_ge C (tgt := 121) dX12_eaters_86 (by decide) (fun h_192 => ?_) (fun h_192 => ?_)
          · skip
            have r_193 := le_r (h_192) rc_7 rv_168
            refine g_iload C 4 dX12_eaters_121 rfl ?_
            refine g_aload_n C 0 dX12_eaters_123 rfl rfl ?_
            refine g_getR C K hLx hkx f_12_7 hb_2 dX12_eaters_124 ?_
            refine g_iconst C (v := 1) dX12_eaters_127 (by decide) ?_
            obtain ⟨x_194, hx_194, rx_194⟩ := ex_getw (I := I_159) (a := b_2) (j := 1) (lo := 0) (hi := 255) hU_161.1 hb_2L (ro_a hb_2k (by decide) hb_2o hkx rfl) (rfl)
            refine h_iald C K hb_2L hb_2k (v := x_194) (1) (by decide) (by decide) (by rw [hb_2n]; decide) hx_194 dX12_eaters_128 ?_
            refine g_icmp_eq C (tgt := 135) dX12_eaters_129 (by decide) (fun h_195 => ?_) (fun h_195 => ?_)
            · skip
              have r_196 := (⟨(eq_rg (h_195) rx_194).1, (eq_rg (h_195) rx_194).2⟩ : Rg 0 255 v_167)
              obtain ⟨x_197, hx_197, rx_197⟩ := ex_any (z0 := v_164 + 1)
              refine g_iinc C dX12_eaters_135 (k := 1) (v := x_197) rfl hx_197 (by decide) (lo2 := [(1, .int x_197), (0, .ref x), (2, .int v_165), (3, .int v_166), (4, .int v_167), (5, .int v_168)]) rfl ?_
              refine g_iload_n C 2 dX12_eaters_138 rfl rfl ?_
              refine g_iload_n C 3 dX12_eaters_139 rfl rfl ?_
              obtain ⟨x_198, hx_198, rx_198⟩ := ex_andl (x := v_165) (y := v_166) (b := 127) (rv_165)
              refine g_iand C (v := x_198) dX12_eaters_140 hx_198 ?_
              refine g_istore_n C dX12_eaters_141 rfl (by decide) (lo2 := [(2, .int x_198), (1, .int x_197), (0, .ref x), (3, .int v_166), (4, .int v_167), (5, .int v_168)]) rfl ?_
              refine g_iconst C (v := 0) dX12_eaters_142 (by decide) ?_
              refine g_istore C dX12_eaters_143 (by decide) (lo2 := [(5, .int 0), (2, .int x_198), (1, .int x_197), (0, .ref x), (3, .int v_166), (4, .int v_167)]) rfl ?_
              refine g_lo (is := [3, 2, 1, 4, 5, 0]) (lo2 := [(0, .ref x), (1, .int x_197), (2, .int x_198), (3, .int v_166), (4, .int v_167), (5, .int 0)]) rfl ?_
              exact l_145 8 I_159 J_160 hU_161 hF_162 hG_163 x_197 x_198 (rx_198) v_166 (rv_166) v_167 (r_196) 0 (rg_w rc_0 (by decide) (by decide)) v_169 (rv_169) q_170 q_171 q_172 hm_173 (ms_s (a := 0) (b := 7) (N := 8) (rg_w rc_0 (by decide) (by decide)) (by decide))
            · skip
              refine g_goto C (tgt := 178) dX12_eaters_132 (by decide) ?_
              refine g_lo (is := [0, 1, 2, 3, 4, 5]) (lo2 := [(0, .ref x), (1, .int v_164), (2, .int v_165), (3, .int v_166), (4, .int v_167), (5, .int v_168)]) rfl ?_
              exact j_178 I_159 J_160 hU_161 hF_162 hG_163 v_164 v_165 (rv_165) v_166 (rv_166) v_167 v_168 (r_193) v_169 (rv_169) q_170 q_171 q_172 hm_173
          · skip
            have r_199 := lt_l (hi := 6) (nle h_192) rv_168 rc_7 (by decide)
            refine g_iload_n C 3 dX12_eaters_89 rfl rfl ?_
            refine g_iload C 5 dX12_eaters_90 rfl ?_
            refine g_callSI C K (c_X12_has W9 v_166 v_168  hU_161) s_12_231 rfl ⟨rfl, rfl⟩ ⟨Nat.le_of_ble_eq_true rfl, Nat.le_of_ble_eq_true rfl⟩ (Nat.le_of_ble_eq_true rfl) ⟨Nat.le_of_ble_eq_true rfl, Nat.le_of_ble_eq_true rfl⟩ dX12_eaters_92 rfl (st := []) (fun x_200 I_201 J_202 h_203 => ?_)
            obtain ⟨rfl, rfl, rx_200, fx_200, ex_200⟩ := h_203
            refine g_if_eq C (tgt := 115) dX12_eaters_95 (by decide) (fun h_204 => ?_) (fun h_204 => ?_)
            · skip
              have r_205 := (⟨(rx_200).1, (eq_rg (h_204) rc_0).2⟩ : Rg 0 0 x_200)
              refine g_lo (is := [0, 1, 2, 3, 4, 5]) (lo2 := [(0, .ref x), (1, .int v_164), (2, .int v_165), (3, .int v_166), (4, .int v_167), (5, .int v_168)]) rfl ?_
              exact j_115 I_159 J_160 hU_161 hF_162 hG_163 v_164 v_165 (rv_165) v_166 (rv_166) v_167 v_168 (r_199) v_169 (rv_169) q_170 q_171 q_172 hm_173 hm_174
            · skip
              have n_206 : ¬ x_200 = 0 := h_204
              have r_207 := ne_lo (lo := 1) n_206 rx_200 rc_0 rfl (by decide)
              refine g_iload C 4 dX12_eaters_98 rfl ?_
              refine g_aload_n C 0 dX12_eaters_100 rfl rfl ?_
              refine g_iload C 5 dX12_eaters_101 rfl ?_
              refine g_aload_n C 0 dX12_eaters_103 rfl rfl ?_
              refine g_getR C K hLx hkx f_12_7 hb_2 dX12_eaters_104 ?_
              refine g_iconst C (v := 0) dX12_eaters_107 (by decide) ?_
              refine h_iald C K hb_2L hb_2k (v := v_169) (0) (by decide) (by decide) (by rw [hb_2n]; decide) q_172 dX12_eaters_108 ?_
              refine g_callVI C K (c_X12_onPlate W9 hLx hkx v_168 v_169 (r_199) (rv_169) hU_161) hLx hkx (by decide) rfl v_12_234 rfl ⟨rfl, rfl⟩ ⟨Nat.le_of_ble_eq_true rfl, Nat.le_of_ble_eq_true rfl⟩ (Nat.le_of_ble_eq_true rfl) ⟨Nat.le_of_ble_eq_true rfl, Nat.le_of_ble_eq_true rfl⟩ dX12_eaters_109 rfl (st := [.int v_167]) (fun x_209 I_210 J_211 h_212 => ?_)
              obtain ⟨rfl, rfl, rx_209, ex_209⟩ := h_212
              obtain ⟨x_213, hx_213, rx_213⟩ := ex_any (z0 := v_167 + x_209)
              refine g_iadd C (v := x_213) dX12_eaters_112 hx_213 ?_
              refine g_istore C dX12_eaters_113 (by decide) (lo2 := [(4, .int x_213), (0, .ref x), (1, .int v_164), (2, .int v_165), (3, .int v_166), (5, .int v_168)]) rfl ?_
              refine g_lo (is := [1, 2, 3, 4, 0, 5]) (lo2 := [(0, .ref x), (1, .int v_164), (2, .int v_165), (3, .int v_166), (4, .int x_213), (5, .int v_168)]) rfl ?_
              exact j_115 I_159 J_160 hU_161 hF_162 hG_163 v_164 v_165 (rv_165) v_166 (rv_166) x_213 v_168 (r_199) v_169 (rv_169) q_170 q_171 q_172 hm_173 hm_174
      refine g_iload_n C 3 dX12_eaters_64 rfl rfl ?_
      refine g_iconst C (v := 1) dX12_eaters_65 (by decide) ?_
      refine g_aload_n C 0 dX12_eaters_66 rfl rfl ?_
      refine g_getR C K hLx hkx f_12_13 hb_3 dX12_eaters_67 ?_
      refine g_iconst C (v := 0) dX12_eaters_70 (by decide) ?_
      obtain ⟨x_214, hx_214, rx_214⟩ := ex_getw (I := I_81) (a := b_3) (j := 0) (lo := 0) (hi := 7) hU_83.1 hb_3L (ro_a hb_3k (by decide) hb_3o hkx rfl) (by decide)
      refine h_iald C K hb_3L hb_3k (v := x_214) (0) (by decide) (by decide) (by rw [hb_3n]; decide) hx_214 dX12_eaters_71 ?_
      obtain ⟨x_215, hx_215, rx_215⟩ := ex_shl (x := 1) (y := x_214) 7 128 rfl (rx_214) (by decide)
      refine g_ishl C (v := x_215) dX12_eaters_72 hx_215 ?_
      refine g_icmp_ge C (tgt := 184) dX12_eaters_73 (by decide) (fun h_216 => ?_) (fun h_216 => ?_)
      · skip
        have r_217 := le_r (h_216) rx_215 rv_88
        refine g_iload_n C 1 dX12_eaters_184 rfl rfl ?_
        refine g_if_ne C (tgt := 190) dX12_eaters_185 (by decide) (fun h_218 => ?_) (fun h_218 => ?_)
        · skip
          have n_219 : ¬ v_86 = 0 := h_218
          refine g_aload_n C 0 dX12_eaters_190 rfl rfl ?_
          refine g_iload_n C 2 dX12_eaters_191 rfl rfl ?_
          refine h_putI C K hLx hkx f_12_54 p_12_32 dX12_eaters_192 (fun I_220 hI_220 => ?_)
          have hU_221 := iw_put W9 hU_83 hI_220 (ro_o hkx (by decide)) (lo := (-2147483648)) (hi := 2147483647) (rfl) (rg_all _) rfl
          have hF_222 := fq_puto hF_84 hI_220 hkx (by decide) (by decide)
          refine g_aload_n C 0 dX12_eaters_195 rfl rfl ?_
          refine g_iconst C (v := (-1)) dX12_eaters_196 (by decide) ?_
          refine h_putI C K hLx hkx f_12_58 p_12_33 dX12_eaters_197 (fun I_223 hI_223 => ?_)
          have hU_224 := iw_put W9 hU_221 hI_223 (ro_o hkx (by decide)) (lo := (-2147483648)) (hi := 2147483647) (rfl) (rg_all _) rfl
          have hF_225 := fq_puto hF_222 hI_223 hkx (by decide) (by decide)
          refine g_iconst C (v := 0) dX12_eaters_200 (by decide) ?_
          refine g_istore_n C dX12_eaters_201 rfl (by decide) (lo2 := [(3, .int 0), (0, .ref x), (1, .int v_86), (2, .int v_87)]) rfl ?_
          refine g_lo (is := [1, 2, 3, 0]) (lo2 := [(0, .ref x), (1, .int v_86), (2, .int v_87), (3, .int 0)]) rfl ?_
          exact l_202 8 I_223 J_82 hU_224 hF_225 hG_85 v_86 (n_219) v_87 (rv_87) 0 (rg_w rc_0 (by decide) (by decide)) (-1) (rg_w rc_m1 (by decide) (by decide)) v_89 (rv_89) (kp_j hI_223 (by decide) (kp_j hI_220 (by decide) q_90)) (kp_j hI_223 (by decide) (kp_j hI_220 (by decide) q_91)) (kp_j hI_223 (by decide) (kp_s hI_220)) (kp_s hI_223) (kp_k (κ := κ) hI_223 (by rw [hb_2k, hkx]; decide) (kp_k (κ := κ) hI_220 (by rw [hb_2k, hkx]; decide) q_92)) (ms_s (a := 0) (b := 7) (N := 8) (rg_w rc_0 (by decide) (by decide)) (by decide))
        · skip
          have r_226 := (⟨(eq_rg (h_218) rc_0).1, (eq_rg (h_218) rc_0).2⟩ : Rg 0 0 v_86)
          refine g_iconst C (v := 0) dX12_eaters_188 (by decide) ?_
          exact g_zret (ty := .int) (r := 0) B K rfl (rfl) ⟨hU_83, hF_84, hG_85, rg_all _, (q_91)⟩ dX12_eaters_189
      · skip
        have r_227 := lt_l (hi := 127) (nle h_216) rv_88 rx_215 (by decide)
        refine g_iconst C (v := 0) dX12_eaters_76 (by decide) ?_
        refine g_istore C dX12_eaters_77 (by decide) (lo2 := [(4, .int 0), (0, .ref x), (1, .int v_86), (2, .int v_87), (3, .int v_88)]) rfl ?_
        refine g_iconst C (v := 0) dX12_eaters_79 (by decide) ?_
        refine g_istore C dX12_eaters_80 (by decide) (lo2 := [(5, .int 0), (4, .int 0), (0, .ref x), (1, .int v_86), (2, .int v_87), (3, .int v_88)]) rfl ?_
        refine g_lo (is := [2, 3, 4, 5, 1, 0]) (lo2 := [(0, .ref x), (1, .int v_86), (2, .int v_87), (3, .int v_88), (4, .int 0), (5, .int 0)]) rfl ?_
        exact l_82 8 I_81 J_82 hU_83 hF_84 hG_85 v_86 v_87 (rv_87) v_88 (r_227) 0 0 (rg_w rc_0 (by decide) (by decide)) v_89 (rv_89) q_90 q_91 q_92 hm_93 (ms_s (a := 0) (b := 7) (N := 8) (rg_w rc_0 (by decide) (by decide)) (by decide))
  have l_43 : ∀ (n_43 : Nat) (I_228 : Nat → Nat → Int32) (J_229 : Nat → Nat → Int64) (hU_230 : Iw L κ R ow I_228) (hF_231 : Fq L κ ow [1200, 1202, 1232, 1233, 85100] I I_228) (hG_232 : Fq L κ ow [] J J_229) (v_233 : Int32) (rv_233 : Rg 0 127 v_233) (v_234 : Int32) (rv_234 : Rg 0 7 v_234) (v_235 : Int32) (rv_235 : Rg 0 5 v_235) (q_236 : I_228 x 0 = 0) (q_237 : I_228 x 2 = 0) (q_238 : I_228 b_2 0 = v_235) (hm_239 : 7 < (v_234 : Int32).toInt + (n_43 : Int)), WG p l e { frames := 2, cells := 0, slots := 0, locals := 43 } s m ([.ref x] : List Value).toArray below meth c 6 0 0 (MQ below (Qi_ D cy L κ ln R (fun r I2 J2 => Iw L κ R ow I2 ∧ Fq L κ ow [1200, 1202, 1232, 1233, 85100] I I2 ∧ Fq L κ ow [] J J2 ∧ Rg (-2147483648) 2147483647 r ∧ ((I2 x 2) = 0))) ([.ref x] : List Value).toArray s 0 0 (Al_ L)) D cy (Al_ L) s.heap L κ ln R I_228 J_229 43 [(0, .ref x), (1, .int 0), (2, .int v_233), (3, .int v_234)] [] := by
    intro n_43
    induction n_43 with
    | zero =>
      intro I_228 J_229 hU_230 hF_231 hG_232 v_233 rv_233 v_234 rv_234 v_235 rv_235 q_236 q_237 q_238 hm_239
      exact ms_0 rv_234 hm_239
    | succ n_43 ih_43 =>
      intro I_228 J_229 hU_230 hF_231 hG_232 v_233 rv_233 v_234 rv_234 v_235 rv_235 q_236 q_237 q_238 hm_239
      refine g_iload_n C 3 dX12_eaters_43 rfl rfl ?_
      refine g_bipush C (v := 7) dX12_eaters_44 (by decide) ?_
      refine g_icmp_ge C (tgt := 62) dX12_eaters_46 (by decide) (fun h_240 => ?_) (fun h_240 => ?_)
      · skip
        have r_241 := le_r (h_240) rc_7 rv_234
        refine g_iconst C (v := 0) dX12_eaters_62 (by decide) ?_
        refine g_istore_n C dX12_eaters_63 rfl (by decide) (lo2 := [(3, .int 0), (0, .ref x), (1, .int 0), (2, .int v_233)]) rfl ?_
        refine g_lo (is := [1, 2, 3, 0]) (lo2 := [(0, .ref x), (1, .int 0), (2, .int v_233), (3, .int 0)]) rfl ?_
        exact l_64 129 I_228 J_229 hU_230 hF_231 hG_232 0 v_233 (rv_233) 0 (rg_w rc_0 (by decide) (by decide)) v_235 (rv_235) q_236 q_237 q_238 (ms_s (a := 0) (b := 128) (N := 129) (rg_w rc_0 (by decide) (by decide)) (by decide))
      · skip
        have r_242 := lt_l (hi := 6) (nle h_240) rv_234 rc_7 (by decide)
        refine g_aload_n C 0 dX12_eaters_49 rfl rfl ?_
        refine g_getR C K hLx hkx f_12_51 hb_1 dX12_eaters_50 ?_
        refine g_iload_n C 3 dX12_eaters_53 rfl rfl ?_
        refine g_iconst C (v := 0) dX12_eaters_54 (by decide) ?_
        refine h_iast C K hb_1L hb_1k (v_234.toNatClampNeg) (rfl) (ix_0 r_242 (by decide)) (ix_lt r_242 (by decide) hb_1n (by decide)) dX12_eaters_55 (fun I_243 hI_243 => ?_)
        have hU_244 := iw_put W9 hU_230 hI_243 (ro_a hb_1k (by decide) hb_1o hkx rfl) (lo := (-2147483648)) (hi := 2147483647) (rfl) (rg_all _) rfl
        have hF_245 := fq_puta hF_231 hI_243 (ro_a hb_1k (by decide) hb_1o hkx rfl) (by decide) (by decide)
        obtain ⟨x_246, hx_246, rx_246, tx_246⟩ := ex_add (y := 1) 1 7 r_242 rc_1 (by decide) (by decide) (by decide) (by decide)
        refine g_iinc C dX12_eaters_56 (k := 3) (v := x_246) rfl hx_246 (by decide) (lo2 := [(3, .int x_246), (0, .ref x), (1, .int 0), (2, .int v_233)]) rfl ?_
        refine g_goto C (tgt := 43) dX12_eaters_59 (by decide) ?_
        refine g_lo (is := [1, 2, 3, 0]) (lo2 := [(0, .ref x), (1, .int 0), (2, .int v_233), (3, .int x_246)]) rfl ?_
        exact ih_43 I_243 J_229 hU_244 hF_245 hG_232 v_233 (rv_233) x_246 (rg_w rx_246 (by decide) (by decide)) v_235 (rv_235) (kp_k (κ := κ) hI_243 (by rw [hkx, hb_1k]; decide) q_236) (kp_k (κ := κ) hI_243 (by rw [hkx, hb_1k]; decide) q_237) (kp_r hI_243 (ro_a hb_2k (by decide) hb_2o hkx rfl) (ro_a hb_1k (by decide) hb_1o hkx rfl) (by decide) q_238) (ms_1 hm_239 (ti_k tx_246 rc_1) (by decide))
  refine g_aload_n C 0 dX12_eaters_0 rfl rfl ?_
  refine g_iconst C (v := 0) dX12_eaters_1 (by decide) ?_
  refine h_putI C K hLx hkx f_12_82 p_12_0 dX12_eaters_2 (fun I_247 hI_247 => ?_)
  have hU_248 := iw_put W9 hU hI_247 (ro_o hkx (by decide)) (lo := (-2147483648)) (hi := 2147483647) (rfl) (rg_all _) rfl
  have hF_249 := fq_puto hF hI_247 hkx (by decide) (by decide)
  refine g_aload_n C 0 dX12_eaters_5 rfl rfl ?_
  refine g_callVI C K (c_X12_take_e W9 hLx hkx   hU_248) hLx hkx (by decide) rfl v_12_162 rfl ⟨rfl, rfl⟩ ⟨Nat.le_of_ble_eq_true rfl, Nat.le_of_ble_eq_true rfl⟩ (Nat.le_of_ble_eq_true rfl) ⟨Nat.le_of_ble_eq_true rfl, Nat.le_of_ble_eq_true rfl⟩ dX12_eaters_6 rfl (st := []) (fun x_250 I_251 J_252 h_253 => ?_)
  obtain ⟨hUI_251, hFI_251, hGJ_252, rx_250, fx_250, ex_250⟩ := h_253
  have hF_254 := fq_tr hF_249 hFI_251 (by decide)
  have hG_255 := fq_tr hG hGJ_252 (by decide)
  refine g_iconst C (v := 2) dX12_eaters_9 (by decide) ?_
  refine g_icmp_ne C (tgt := 26) dX12_eaters_10 (by decide) (fun h_256 => ?_) (fun h_256 => ?_)
  · skip
    have n_257 : ¬ x_250 = 2 := h_256
    refine g_iconst C (v := (-1)) dX12_eaters_26 (by decide) ?_
    exact g_zret (ty := .int) (r := (-1)) B K rfl (rfl) ⟨hUI_251, hF_254, hG_255, rg_all _, (ex_250)⟩ dX12_eaters_27
  · skip
    have r_258 := (⟨(eq_rg (h_256) rc_2).1, (eq_rg (h_256) rc_2).2⟩ : Rg 2 2 x_250)
    refine g_aload_n C 0 dX12_eaters_13 rfl rfl ?_
    refine g_aload_n C 0 dX12_eaters_14 rfl rfl ?_
    refine g_getR C K hLx hkx f_12_7 hb_2 dX12_eaters_15 ?_
    refine g_iconst C (v := 0) dX12_eaters_18 (by decide) ?_
    obtain ⟨x_259, hx_259, rx_259⟩ := ex_getw (I := I_251) (a := b_2) (j := 0) (lo := 0) (hi := 255) hUI_251.1 hb_2L (ro_a hb_2k (by decide) hb_2o hkx rfl) (rfl)
    refine h_iald C K hb_2L hb_2k (v := x_259) (0) (by decide) (by decide) (by rw [hb_2n]; decide) hx_259 dX12_eaters_19 ?_
    refine g_callVI C K (c_X12_isDish W9 hLx hkx x_259  hUI_251) hLx hkx (by decide) rfl v_12_250 rfl ⟨rfl, rfl⟩ ⟨Nat.le_of_ble_eq_true rfl, Nat.le_of_ble_eq_true rfl⟩ (Nat.le_of_ble_eq_true rfl) ⟨Nat.le_of_ble_eq_true rfl, Nat.le_of_ble_eq_true rfl⟩ dX12_eaters_20 rfl (st := []) (fun x_260 I_261 J_262 h_263 => ?_)
    obtain ⟨rfl, rfl, rx_260, ex_260⟩ := h_263
    refine g_if_ne C (tgt := 28) dX12_eaters_23 (by decide) (fun h_264 => ?_) (fun h_264 => ?_)
    · skip
      have n_265 : ¬ x_260 = 0 := h_264
      have r_266 := ne_lo (lo := 1) n_265 rx_260 rc_0 rfl (by decide)
      have r_267 := rg_i rx_259 ((ex_260) n_265) (lo := 0) (hi := 5) (by decide) (by decide)
      refine g_iconst C (v := 0) dX12_eaters_28 (by decide) ?_
      refine g_istore_n C dX12_eaters_29 rfl (by decide) (lo2 := [(1, .int 0), (0, .ref x)]) rfl ?_
      refine g_iconst C (v := 1) dX12_eaters_30 (by decide) ?_
      refine g_aload_n C 1 dX12_eaters_31 rfl rfl ?_
      refine g_getR C K hLx hkx f_12_13 hb_3 dX12_eaters_32 ?_
      refine g_iconst C (v := 0) dX12_eaters_35 (by decide) ?_
      obtain ⟨x_268, hx_268, rx_268⟩ := ex_getw (I := I_251) (a := b_3) (j := 0) (lo := 0) (hi := 7) hUI_251.1 hb_3L (ro_a hb_3k (by decide) hb_3o hkx rfl) (by decide)
      refine h_iald C K hb_3L hb_3k (v := x_268) (0) (by decide) (by decide) (by rw [hb_3n]; decide) hx_268 dX12_eaters_36 ?_
      obtain ⟨x_269, hx_269, rx_269⟩ := ex_shl (x := 1) (y := x_268) 7 128 rfl (rx_268) (by decide)
      refine g_ishl C (v := x_269) dX12_eaters_37 hx_269 ?_
      refine g_iconst C (v := 1) dX12_eaters_38 (by decide) ?_
      obtain ⟨x_270, hx_270, rx_270, tx_270⟩ := ex_sub 0 127 rx_269 rc_1 (by decide) (by decide) (by decide) (by decide)
      refine g_isub C (v := x_270) dX12_eaters_39 hx_270 ?_
      refine g_istore_n C dX12_eaters_40 rfl (by decide) (lo2 := [(2, .int x_270), (1, .int 0), (0, .ref x)]) rfl ?_
      refine g_iconst C (v := 0) dX12_eaters_41 (by decide) ?_
      refine g_istore_n C dX12_eaters_42 rfl (by decide) (lo2 := [(3, .int 0), (2, .int x_270), (1, .int 0), (0, .ref x)]) rfl ?_
      refine g_lo (is := [3, 2, 1, 0]) (lo2 := [(0, .ref x), (1, .int 0), (2, .int x_270), (3, .int 0)]) rfl ?_
      exact l_43 8 I_251 J_252 hUI_251 hF_254 hG_255 x_270 (rx_270) 0 (rg_w rc_0 (by decide) (by decide)) x_259 (r_267) (fq_at hFI_251 hLx hkx (by decide) (by decide) (kp_s hI_247)) ex_250 hx_259 (ms_s (a := 0) (b := 7) (N := 8) (rg_w rc_0 (by decide) (by decide)) (by decide))
    · skip
      have r_271 := (⟨(rx_260).1, (eq_rg (h_264) rc_0).2⟩ : Rg 0 0 x_260)
      refine g_iconst C (v := (-1)) dX12_eaters_26 (by decide) ?_
      exact g_zret (ty := .int) (r := (-1)) B K rfl (rfl) ⟨hUI_251, hF_254, hG_255, rg_all _, (ex_250)⟩ dX12_eaters_27
set_option maxRecDepth 100000 in
set_option maxHeartbeats 8000000 in
theorem c_X12_left_e {l : Launch} {D : va_G} {cy : Nat → ClassId} {L : List Nat} {κ ln : Nat → Nat} {R : Nat → Nat → Option Nat} {I : Nat → Nat → Int32} {J : Nat → Nat → Int64} {ow : Nat → Nat × Nat} (W9 : ∀ a ∈ L, Shp L κ ln R ow a) {x : Nat} (hLx : x ∈ L) (hkx : κ x = 12) (a0 : Int32) (hU : Iw L κ R ow I) : CtI l yX12_left cX12_left 4 (some .int) { frames := 5, cells := 0, slots := 0, locals := 120 } D cy L κ ln R I J [.ref x, .int a0] (fun r I2 J2 => Iw L κ R ow I2 ∧ Fq L κ ow [1200, 1202, 83400, 83800] I I2 ∧ Fq L κ ow [] J J2 ∧ Rg (-1) 2274 r ∧ (Hd_ R x I I2) ∧ ((I2 x 2) = 0)) := by
  refine CtI.of (by decide +kernel) (Nat.le_of_ble_eq_true rfl) ?_
  intro p e s m below meth c B K
  have C := B.1
  have hF : Fq L κ ow [1200, 1202, 83400, 83800] I I := fq_rf
  have hG : Fq L κ ow [] J J := fq_rf
  obtain ⟨b_1, hb_1, hb_1L, hb_1k, hb_1n, hb_1o⟩ := shp_a (W9 x hLx) hkx 1 14 940 rfl (by decide)
  refine g_lo (is := [0, 1]) (lo2 := [(0, .ref x), (1, .int a0)]) rfl ?_
  have l_64 : ∀ (n_64 : Nat) (I_2 : Nat → Nat → Int32) (J_3 : Nat → Nat → Int64) (hU_4 : Iw L κ R ow I_2) (hF_5 : Fq L κ ow [1200, 1202, 83400, 83800] I I_2) (hG_6 : Fq L κ ow [] J J_3) (r_7 : Rg 0 6 a0) (v_8 : Int32) (rv_8 : Rg 1 7 v_8) (v_9 : Int32) (rv_9 : Rg 0 7 v_9) (q_10 : I_2 x 0 = 0) (q_11 : I_2 x 2 = 0) (hd_12 : Hd_ R x I I_2) (ga_13 : Ga_ R x I_2) (hj_14 : ∀ j : Nat, (j : Int) < v_8.toInt → Rg 0 6 (I_2 b_1 j)) (hm_15 : 7 < (v_9 : Int32).toInt + (n_64 : Int)), WG p l e { frames := 5, cells := 0, slots := 0, locals := 120 } s m ([.ref x, .int a0] : List Value).toArray below meth c 4 0 0 (MQ below (Qi_ D cy L κ ln R (fun r I2 J2 => Iw L κ R ow I2 ∧ Fq L κ ow [1200, 1202, 83400, 83800] I I2 ∧ Fq L κ ow [] J J2 ∧ Rg (-1) 2274 r ∧ (Hd_ R x I I2) ∧ ((I2 x 2) = 0))) ([.ref x, .int a0] : List Value).toArray s 0 0 (Al_ L)) D cy (Al_ L) s.heap L κ ln R I_2 J_3 64 [(0, .ref x), (1, .int a0), (2, .int v_8), (3, .int v_9)] [] := by
    intro n_64
    induction n_64 with
    | zero =>
      intro I_2 J_3 hU_4 hF_5 hG_6 r_7 v_8 rv_8 v_9 rv_9 q_10 q_11 hd_12 ga_13 hj_14 hm_15
      exact ms_0 rv_9 hm_15
    | succ n_64 ih_64 =>
      intro I_2 J_3 hU_4 hF_5 hG_6 r_7 v_8 rv_8 v_9 rv_9 q_10 q_11 hd_12 ga_13 hj_14 hm_15
      have j_95 : ∀ (I_16 : Nat → Nat → Int32) (J_17 : Nat → Nat → Int64) (hU_18 : Iw L κ R ow I_16) (hF_19 : Fq L κ ow [1200, 1202, 83400, 83800] I I_16) (hG_20 : Fq L κ ow [] J J_17) (r_21 : Rg 0 6 a0) (v_22 : Int32) (rv_22 : Rg 1 7 v_22) (v_23 : Int32) (rv_23 : Rg 0 6 v_23) (q_24 : I_16 x 0 = 0) (q_25 : I_16 x 2 = 0) (hm_26 : 7 < (v_23 : Int32).toInt + ((n_64 + 1 : Nat) : Int)) (hd_27 : Hd_ R x I I_16) (ga_28 : Ga_ R x I_16) (hj_29 : ∀ j : Nat, (j : Int) < v_22.toInt → Rg 0 6 (I_16 b_1 j)), WG p l e { frames := 5, cells := 0, slots := 0, locals := 120 } s m ([.ref x, .int a0] : List Value).toArray below meth c 4 0 0 (MQ below (Qi_ D cy L κ ln R (fun r I2 J2 => Iw L κ R ow I2 ∧ Fq L κ ow [1200, 1202, 83400, 83800] I I2 ∧ Fq L κ ow [] J J2 ∧ Rg (-1) 2274 r ∧ (Hd_ R x I I2) ∧ ((I2 x 2) = 0))) ([.ref x, .int a0] : List Value).toArray s 0 0 (Al_ L)) D cy (Al_ L) s.heap L κ ln R I_16 J_17 95 [(0, .ref x), (1, .int a0), (2, .int v_22), (3, .int v_23)] [] := by
        intro I_16 J_17 hU_18 hF_19 hG_20 r_21 v_22 rv_22 v_23 rv_23 q_24 q_25 hm_26 hd_27 ga_28 hj_29
        obtain ⟨x_30, hx_30, rx_30, tx_30⟩ := ex_add (y := 1) 1 7 rv_23 rc_1 (by decide) (by decide) (by decide) (by decide)
        refine g_iinc C dX12_left_95 (k := 3) (v := x_30) rfl hx_30 (by decide) (lo2 := [(3, .int x_30), (0, .ref x), (1, .int a0), (2, .int v_22)]) rfl ?_
        refine g_goto C (tgt := 64) dX12_left_98 (by decide) ?_
        refine g_lo (is := [1, 2, 3, 0]) (lo2 := [(0, .ref x), (1, .int a0), (2, .int v_22), (3, .int x_30)]) rfl ?_
        exact ih_64 I_16 J_17 hU_18 hF_19 hG_20 (r_21) v_22 (rv_22) x_30 (rg_w rx_30 (by decide) (by decide)) q_24 q_25 hd_27 ga_28 hj_29 (ms_1 hm_26 (ti_k tx_30 rc_1) (by decide))
      refine g_iload_n C 3 dX12_left_64 rfl rfl ?_
      refine g_iload_n C 2 dX12_left_65 rfl rfl ?_
      refine g_icmp_ge C (tgt := 101) dX12_left_66 (by decide) (fun h_31 => ?_) (fun h_31 => ?_)
      · skip
        have r_32 := le_r (h_31) rv_8 rv_9
        refine g_aload_n C 0 dX12_left_101 rfl rfl ?_
        refine g_iload_n C 1 dX12_left_102 rfl rfl ?_
        refine g_callVI C K (c_X12_plateOf W9 hLx hkx a0 (r_7) hU_4) hLx hkx (by decide) rfl v_12_247 rfl ⟨rfl, rfl⟩ ⟨Nat.le_of_ble_eq_true rfl, Nat.le_of_ble_eq_true rfl⟩ (Nat.le_of_ble_eq_true rfl) ⟨Nat.le_of_ble_eq_true rfl, Nat.le_of_ble_eq_true rfl⟩ dX12_left_103 rfl (st := []) (fun x_33 I_34 J_35 h_36 => ?_)
        obtain ⟨rfl, rfl, rx_33⟩ := h_36
        refine g_istore_n C dX12_left_106 rfl (by decide) (lo2 := [(3, .int x_33), (0, .ref x), (1, .int a0), (2, .int v_8)]) rfl ?_
        refine g_aload_n C 1 dX12_left_107 rfl rfl ?_
        refine g_callVV C K (c_X12_takeBack W9 hLx hkx   hU_4  (ga_13)) hLx hkx (by decide) rfl v_12_332 rfl ⟨rfl, rfl⟩ ⟨Nat.le_of_ble_eq_true rfl, Nat.le_of_ble_eq_true rfl⟩ (Nat.le_of_ble_eq_true rfl) ⟨Nat.le_of_ble_eq_true rfl, Nat.le_of_ble_eq_true rfl⟩ dX12_left_108 rfl (st := []) (fun I_38 J_39 h_40 => ?_)
        obtain ⟨hUI_38, hFI_38, hGJ_39, ex_37⟩ := h_40
        have hF_41 := fq_tr hF_5 hFI_38 (by decide)
        have hG_42 := fq_tr hG_6 hGJ_39 (by decide)
        refine g_iload_n C 0 dX12_left_111 rfl rfl ?_
        exact g_zret (ty := .int) (r := x_33) B K rfl (rfl) ⟨hUI_38, hF_41, hG_42, rg_w rx_33 (by decide) (by decide), (hd_t hd_12 ex_37), ((fq_at hFI_38 hLx hkx (by decide) (by decide) q_11))⟩ dX12_left_112
      · skip
        have r_43 := lt_l (hi := 6) (nle h_31) rv_9 rv_8 (by decide)
        refine g_aload_n C 0 dX12_left_69 rfl rfl ?_
        refine g_aload_n C 0 dX12_left_70 rfl rfl ?_
        refine g_getR C K hLx hkx f_12_7 hb_1 dX12_left_71 ?_
        refine g_iload_n C 3 dX12_left_74 rfl rfl ?_
        obtain ⟨x_44, hx_44, rx_44⟩ := ex_getw (I := I_2) (a := b_1) (j := v_9.toNatClampNeg) (lo := 0) (hi := 255) hU_4.1 hb_1L (ro_a hb_1k (by decide) hb_1o hkx rfl) (rfl)
        refine h_iald C K hb_1L hb_1k (v := x_44) (v_9.toNatClampNeg) (rfl) (ix_0 r_43 (by decide)) (ix_lt r_43 (by decide) hb_1n (by decide)) hx_44 dX12_left_75 ?_
        have r_45 := eq_rg (Eq.symm hx_44) (hj_14 v_9.toNatClampNeg (by rw [ix_n r_43 (by decide)]; exact Int32.lt_iff_toInt_lt.mp (nle h_31)))
        refine g_callVI C K (c_X12_isDead W9 hLx hkx x_44 (r_45) hU_4) hLx hkx (by decide) rfl v_12_244 rfl ⟨rfl, rfl⟩ ⟨Nat.le_of_ble_eq_true rfl, Nat.le_of_ble_eq_true rfl⟩ (Nat.le_of_ble_eq_true rfl) ⟨Nat.le_of_ble_eq_true rfl, Nat.le_of_ble_eq_true rfl⟩ dX12_left_76 rfl (st := []) (fun x_46 I_47 J_48 h_49 => ?_)
        obtain ⟨rfl, rfl, rx_46⟩ := h_49
        refine g_if_ne C (tgt := 95) dX12_left_79 (by decide) (fun h_50 => ?_) (fun h_50 => ?_)
        · skip
          have n_51 : ¬ x_46 = 0 := h_50
          have r_52 := ne_lo (lo := 1) n_51 rx_46 rc_0 rfl (by decide)
          refine g_lo (is := [0, 1, 2, 3]) (lo2 := [(0, .ref x), (1, .int a0), (2, .int v_8), (3, .int v_9)]) rfl ?_
          exact j_95 I_2 J_3 hU_4 hF_5 hG_6 (r_7) v_8 (rv_8) v_9 (r_43) q_10 q_11 hm_15 hd_12 ga_13 hj_14
        · skip
          have r_53 := (⟨(rx_46).1, (eq_rg (h_50) rc_0).2⟩ : Rg 0 0 x_46)
          refine g_aload_n C 0 dX12_left_82 rfl rfl ?_
          refine g_iconst C (v := 5) dX12_left_83 (by decide) ?_
          refine g_aload_n C 0 dX12_left_84 rfl rfl ?_
          refine g_getR C K hLx hkx f_12_7 hb_1 dX12_left_85 ?_
          refine g_iload_n C 3 dX12_left_88 rfl rfl ?_
          refine h_iald C K hb_1L hb_1k (v := x_44) (v_9.toNatClampNeg) (rfl) (ix_0 r_43 (by decide)) (ix_lt r_43 (by decide) hb_1n (by decide)) hx_44 dX12_left_89 ?_
          refine g_iconst C (v := 0) dX12_left_90 (by decide) ?_
          refine g_iconst C (v := 0) dX12_left_91 (by decide) ?_
          refine g_callVV C K (c_X12_live W9 hLx hkx 5 x_44 0 0 (rg_w rc_5 (by decide) (by decide)) (r_45) (rg_w rc_0 (by decide) (by decide)) (rg_w rc_0 (by decide) (by decide)) hU_4  (fun a ha => ⟨fun q => absurd q (by decide), fun q => absurd q (by decide)⟩)) hLx hkx (by decide) rfl v_12_285 rfl ⟨rfl, rfl⟩ ⟨Nat.le_of_ble_eq_true rfl, Nat.le_of_ble_eq_true rfl⟩ (Nat.le_of_ble_eq_true rfl) ⟨Nat.le_of_ble_eq_true rfl, Nat.le_of_ble_eq_true rfl⟩ dX12_left_92 rfl (st := []) (fun I_56 J_57 h_58 => ?_)
          obtain ⟨hUI_56, hFI_56, hGJ_57, ex_55⟩ := h_58
          have hF_59 := fq_tr hF_5 hFI_56 (by decide)
          have hG_60 := fq_tr hG_6 hGJ_57 (by decide)
          refine g_lo (is := [0, 1, 2, 3]) (lo2 := [(0, .ref x), (1, .int a0), (2, .int v_8), (3, .int v_9)]) rfl ?_
          exact j_95 I_56 J_57 hUI_56 hF_59 hG_60 (r_7) v_8 (rv_8) v_9 (r_43) (fq_at hFI_56 hLx hkx (by decide) (by decide) q_10) (fq_at hFI_56 hLx hkx (by decide) (by decide) q_11) hm_15 (hd_t hd_12 ex_55) (ga_mv W9 hLx hkx ga_13 ex_55 hFI_56 (by decide)) (fun j hj => eq_rg (fq_ar hFI_56 hb_1L (ro_a hb_1k (by decide) hb_1o hkx rfl) (by decide) (by decide) rfl) (hj_14 j hj))
  have l_32 : ∀ (n_32 : Nat) (I_61 : Nat → Nat → Int32) (J_62 : Nat → Nat → Int64) (hU_63 : Iw L κ R ow I_61) (hF_64 : Fq L κ ow [1200, 1202, 83400, 83800] I I_61) (hG_65 : Fq L κ ow [] J J_62) (r_66 : Rg 0 6 a0) (v_67 : Int32) (rv_67 : Rg 1 7 v_67) (v_68 : Int32) (rv_68 : Rg 0 7 v_68) (q_69 : I_61 x 0 = 0) (q_70 : I_61 x 2 = 0) (hd_71 : Hd_ R x I I_61) (hj_72 : ∀ j : Nat, (j : Int) < v_68.toInt → Rg 0 6 (I_61 b_1 j)) (hm_73 : 7 < (v_68 : Int32).toInt + (n_32 : Int)), WG p l e { frames := 5, cells := 0, slots := 0, locals := 120 } s m ([.ref x, .int a0] : List Value).toArray below meth c 4 0 0 (MQ below (Qi_ D cy L κ ln R (fun r I2 J2 => Iw L κ R ow I2 ∧ Fq L κ ow [1200, 1202, 83400, 83800] I I2 ∧ Fq L κ ow [] J J2 ∧ Rg (-1) 2274 r ∧ (Hd_ R x I I2) ∧ ((I2 x 2) = 0))) ([.ref x, .int a0] : List Value).toArray s 0 0 (Al_ L)) D cy (Al_ L) s.heap L κ ln R I_61 J_62 32 [(0, .ref x), (1, .int a0), (2, .int v_67), (3, .int v_68)] [] := by
    intro n_32
    induction n_32 with
    | zero =>
      intro I_61 J_62 hU_63 hF_64 hG_65 r_66 v_67 rv_67 v_68 rv_68 q_69 q_70 hd_71 hj_72 hm_73
      exact ms_0 rv_68 hm_73
    | succ n_32 ih_32 =>
      intro I_61 J_62 hU_63 hF_64 hG_65 r_66 v_67 rv_67 v_68 rv_68 q_69 q_70 hd_71 hj_72 hm_73
      refine g_iload_n C 3 dX12_left_32 rfl rfl ?_
      refine g_iload_n C 2 dX12_left_33 rfl rfl ?_
      refine g_icmp_ge C (tgt := 58) dX12_left_34 (by decide) (fun h_74 => ?_) (fun h_74 => ?_)
      · skip
        have r_75 := le_r (h_74) rv_67 rv_68
        refine g_aload_n C 0 dX12_left_58 rfl rfl ?_
        refine g_callVV C K (c_X12_layAside W9 hLx hkx   hU_63) hLx hkx (by decide) rfl v_12_329 rfl ⟨rfl, rfl⟩ ⟨Nat.le_of_ble_eq_true rfl, Nat.le_of_ble_eq_true rfl⟩ (Nat.le_of_ble_eq_true rfl) ⟨Nat.le_of_ble_eq_true rfl, Nat.le_of_ble_eq_true rfl⟩ dX12_left_59 rfl (st := []) (fun I_77 J_78 h_79 => ?_)
        obtain ⟨hUI_77, hFI_77, hGJ_78, ex_76⟩ := h_79
        have hF_80 := fq_tr hF_64 hFI_77 (by decide)
        have hG_81 := fq_tr hG_65 hGJ_78 (by decide)
        refine g_iconst C (v := 0) dX12_left_62 (by decide) ?_
        refine g_istore_n C dX12_left_63 rfl (by decide) (lo2 := [(3, .int 0), (0, .ref x), (1, .int a0), (2, .int v_67)]) rfl ?_
        refine g_lo (is := [1, 2, 3, 0]) (lo2 := [(0, .ref x), (1, .int a0), (2, .int v_67), (3, .int 0)]) rfl ?_
        exact l_64 8 I_77 J_78 hUI_77 hF_80 hG_81 (r_66) v_67 (rv_67) 0 (rg_w rc_0 (by decide) (by decide)) (fq_at hFI_77 hLx hkx (by decide) (by decide) q_69) (fq_at hFI_77 hLx hkx (by decide) (by decide) q_70) (hd_t hd_71 ex_76.1) ex_76.2 (fun j hj => eq_rg (fq_ar hFI_77 hb_1L (ro_a hb_1k (by decide) hb_1o hkx rfl) (by decide) (by decide) rfl) ((fun j hj => hj_72 j (Int.lt_of_lt_of_le hj (Int32.le_iff_toInt_le.mp (h_74)))) j hj)) (ms_s (a := 0) (b := 7) (N := 8) (rg_w rc_0 (by decide) (by decide)) (by decide))
      · skip
        have r_82 := lt_l (hi := 6) (nle h_74) rv_68 rv_67 (by decide)
        refine g_aload_n C 0 dX12_left_37 rfl rfl ?_
        refine g_aload_n C 0 dX12_left_38 rfl rfl ?_
        refine g_getR C K hLx hkx f_12_7 hb_1 dX12_left_39 ?_
        refine g_iload_n C 3 dX12_left_42 rfl rfl ?_
        obtain ⟨x_83, hx_83, rx_83⟩ := ex_getw (I := I_61) (a := b_1) (j := v_68.toNatClampNeg) (lo := 0) (hi := 255) hU_63.1 hb_1L (ro_a hb_1k (by decide) hb_1o hkx rfl) (rfl)
        refine h_iald C K hb_1L hb_1k (v := x_83) (v_68.toNatClampNeg) (rfl) (ix_0 r_82 (by decide)) (ix_lt r_82 (by decide) hb_1n (by decide)) hx_83 dX12_left_43 ?_
        refine g_callVI C K (c_X12_isPerson W9 hLx hkx x_83  hU_63) hLx hkx (by decide) rfl v_12_238 rfl ⟨rfl, rfl⟩ ⟨Nat.le_of_ble_eq_true rfl, Nat.le_of_ble_eq_true rfl⟩ (Nat.le_of_ble_eq_true rfl) ⟨Nat.le_of_ble_eq_true rfl, Nat.le_of_ble_eq_true rfl⟩ dX12_left_44 rfl (st := []) (fun x_84 I_85 J_86 h_87 => ?_)
        obtain ⟨rfl, rfl, rx_84, fx_84, ex_84⟩ := h_87
        refine g_if_ne C (tgt := 52) dX12_left_47 (by decide) (fun h_88 => ?_) (fun h_88 => ?_)
        · skip
          have n_89 : ¬ x_84 = 0 := h_88
          have r_90 := ne_lo (lo := 1) n_89 rx_84 rc_0 rfl (by decide)
          have r_91 := rg_i rx_83 ((ex_84) n_89) (lo := 0) (hi := 6) (by decide) (by decide)
          obtain ⟨x_92, hx_92, rx_92, tx_92⟩ := ex_add (y := 1) 1 7 r_82 rc_1 (by decide) (by decide) (by decide) (by decide)
          refine g_iinc C dX12_left_52 (k := 3) (v := x_92) rfl hx_92 (by decide) (lo2 := [(3, .int x_92), (0, .ref x), (1, .int a0), (2, .int v_67)]) rfl ?_
          refine g_goto C (tgt := 32) dX12_left_55 (by decide) ?_
          refine g_lo (is := [1, 2, 3, 0]) (lo2 := [(0, .ref x), (1, .int a0), (2, .int v_67), (3, .int x_92)]) rfl ?_
          exact ih_32 I_61 J_62 hU_63 hF_64 hG_65 (r_66) v_67 (rv_67) x_92 (rg_w rx_92 (by decide) (by decide)) q_69 q_70 hd_71 (fun j hj => by by_cases q : (j : Int) < v_68.toInt; exact hj_72 j q; have q1 := ix_n r_82 (by decide); have q2 := (ti_k tx_92 rc_1); rw [show j = v_68.toNatClampNeg from by omega]; exact eq_rg hx_83 (r_91)) (ms_1 hm_73 (ti_k tx_92 rc_1) (by decide))
        · skip
          have r_93 := (⟨(rx_84).1, (eq_rg (h_88) rc_0).2⟩ : Rg 0 0 x_84)
          refine g_iconst C (v := (-1)) dX12_left_50 (by decide) ?_
          exact g_zret (ty := .int) (r := (-1)) B K rfl (rfl) ⟨hU_63, hF_64, hG_65, rg_w rc_m1 (by decide) (by decide), hd_71, (q_70)⟩ dX12_left_51
  refine g_aload_n C 0 dX12_left_0 rfl rfl ?_
  refine g_iconst C (v := 0) dX12_left_1 (by decide) ?_
  refine h_putI C K hLx hkx f_12_82 p_12_0 dX12_left_2 (fun I_94 hI_94 => ?_)
  have hU_95 := iw_put W9 hU hI_94 (ro_o hkx (by decide)) (lo := (-2147483648)) (hi := 2147483647) (rfl) (rg_all _) rfl
  have hF_96 := fq_puto hF hI_94 hkx (by decide) (by decide)
  refine g_aload_n C 0 dX12_left_5 rfl rfl ?_
  refine g_callVI C K (c_X12_take_e W9 hLx hkx   hU_95) hLx hkx (by decide) rfl v_12_162 rfl ⟨rfl, rfl⟩ ⟨Nat.le_of_ble_eq_true rfl, Nat.le_of_ble_eq_true rfl⟩ (Nat.le_of_ble_eq_true rfl) ⟨Nat.le_of_ble_eq_true rfl, Nat.le_of_ble_eq_true rfl⟩ dX12_left_6 rfl (st := []) (fun x_97 I_98 J_99 h_100 => ?_)
  obtain ⟨hUI_98, hFI_98, hGJ_99, rx_97, fx_97, ex_97⟩ := h_100
  have hF_101 := fq_tr hF_96 hFI_98 (by decide)
  have hG_102 := fq_tr hG hGJ_99 (by decide)
  refine g_istore_n C dX12_left_9 rfl (by decide) (lo2 := [(2, .int x_97), (0, .ref x), (1, .int a0)]) rfl ?_
  refine g_aload_n C 1 dX12_left_10 rfl rfl ?_
  refine g_iload_n C 2 dX12_left_11 rfl rfl ?_
  refine g_callVI C K (c_X12_isPerson W9 hLx hkx a0  hUI_98) hLx hkx (by decide) rfl v_12_238 rfl ⟨rfl, rfl⟩ ⟨Nat.le_of_ble_eq_true rfl, Nat.le_of_ble_eq_true rfl⟩ (Nat.le_of_ble_eq_true rfl) ⟨Nat.le_of_ble_eq_true rfl, Nat.le_of_ble_eq_true rfl⟩ dX12_left_12 rfl (st := []) (fun x_103 I_104 J_105 h_106 => ?_)
  obtain ⟨rfl, rfl, rx_103, fx_103, ex_103⟩ := h_106
  refine g_if_eq C (tgt := 28) dX12_left_15 (by decide) (fun h_107 => ?_) (fun h_107 => ?_)
  · skip
    have r_108 := (⟨(rx_103).1, (eq_rg (h_107) rc_0).2⟩ : Rg 0 0 x_103)
    refine g_iconst C (v := (-1)) dX12_left_28 (by decide) ?_
    exact g_zret (ty := .int) (r := (-1)) B K rfl (rfl) ⟨hUI_98, hF_101, hG_102, rg_w rc_m1 (by decide) (by decide), (hd_fq W9 hLx hkx (hd_u (r := 0) W9 hLx hkx hd_rf hI_94 (Or.inl (ro_o hkx (by decide)))) hFI_98 (by decide)), (ex_97)⟩ dX12_left_29
  · skip
    have n_109 : ¬ x_103 = 0 := h_107
    have r_110 := ne_lo (lo := 1) n_109 rx_103 rc_0 rfl (by decide)
    have r_111 := rg_i (rg_all a0) ((ex_103) n_109) (lo := 0) (hi := 6) (by decide) (by decide)
    refine g_iload_n C 0 dX12_left_18 rfl rfl ?_
    refine g_iconst C (v := 1) dX12_left_19 (by decide) ?_
    refine g_bipush C (v := 7) dX12_left_20 (by decide) ?_
    refine g_callSI C K (c_X12_isIn W9 x_97 1 7 (rg_w rc_1 (by decide) (by decide)) (rg_w rc_7 (by decide) (by decide)) hUI_98) s_12_149 rfl ⟨rfl, rfl⟩ ⟨Nat.le_of_ble_eq_true rfl, Nat.le_of_ble_eq_true rfl⟩ (Nat.le_of_ble_eq_true rfl) ⟨Nat.le_of_ble_eq_true rfl, Nat.le_of_ble_eq_true rfl⟩ dX12_left_22 rfl (st := []) (fun x_112 I_113 J_114 h_115 => ?_)
    obtain ⟨rfl, rfl, rx_112, fx_112, ex_112⟩ := h_115
    refine g_if_ne C (tgt := 30) dX12_left_25 (by decide) (fun h_116 => ?_) (fun h_116 => ?_)
    · skip
      have n_117 : ¬ x_112 = 0 := h_116
      have r_118 := ne_lo (lo := 1) n_117 rx_112 rc_0 rfl (by decide)
      have r_119 := le_r (((ex_112.1) n_117)) rc_1 rx_97
      have r_120 := le_l (((ex_112.2) n_117)) r_119 rc_7
      refine g_iconst C (v := 0) dX12_left_30 (by decide) ?_
      refine g_istore_n C dX12_left_31 rfl (by decide) (lo2 := [(3, .int 0), (2, .int x_97), (0, .ref x), (1, .int a0)]) rfl ?_
      refine g_lo (is := [2, 3, 1, 0]) (lo2 := [(0, .ref x), (1, .int a0), (2, .int x_97), (3, .int 0)]) rfl ?_
      exact l_32 8 I_98 J_99 hUI_98 hF_101 hG_102 (r_111) x_97 (r_120) 0 (rg_w rc_0 (by decide) (by decide)) (fq_at hFI_98 hLx hkx (by decide) (by decide) (kp_s hI_94)) ex_97 (hd_fq W9 hLx hkx (hd_u (r := 0) W9 hLx hkx hd_rf hI_94 (Or.inl (ro_o hkx (by decide)))) hFI_98 (by decide)) (fun j hj => by rw [show (0 : Int32).toInt = 0 from by decide] at hj; omega) (ms_s (a := 0) (b := 7) (N := 8) (rg_w rc_0 (by decide) (by decide)) (by decide))
    · skip
      have r_121 := (⟨(rx_112).1, (eq_rg (h_116) rc_0).2⟩ : Rg 0 0 x_112)
      refine g_iconst C (v := (-1)) dX12_left_28 (by decide) ?_
      exact g_zret (ty := .int) (r := (-1)) B K rfl (rfl) ⟨hUI_98, hF_101, hG_102, rg_w rc_m1 (by decide) (by decide), (hd_fq W9 hLx hkx (hd_u (r := 0) W9 hLx hkx hd_rf hI_94 (Or.inl (ro_o hkx (by decide)))) hFI_98 (by decide)), (ex_97)⟩ dX12_left_29
set_option maxRecDepth 100000 in
set_option maxHeartbeats 8000000 in
theorem c_X12_sentence_e {l : Launch} {D : va_G} {cy : Nat → ClassId} {L : List Nat} {κ ln : Nat → Nat} {R : Nat → Nat → Option Nat} {I : Nat → Nat → Int32} {J : Nat → Nat → Int64} {ow : Nat → Nat × Nat} (W9 : ∀ a ∈ L, Shp L κ ln R ow a) {x : Nat} (hLx : x ∈ L) (hkx : κ x = 12) (hU : Iw L κ R ow I) : CtI l yX12_sentence cX12_sentence 2 (some .int) { frames := 38, cells := 0, slots := 0, locals := 814 } D cy L κ ln R I J [.ref x] (fun r I2 J2 => Iw L κ R ow I2 ∧ Fq L κ ow [1200, 1202, 1203, 1204, 1205, 1206, 1207, 1208, 1209, 1210, 1211, 1213, 1247, 1248, 1249, 1250, 83400, 86600] I I2 ∧ Fq L κ ow [1212] J J2 ∧ Rg (-2147483648) 2147483647 r ∧ (Hd_ R x I I2) ∧ ((I2 x 2) = 0)) := by
  refine CtI.of (by decide +kernel) (Nat.le_of_ble_eq_true rfl) ?_
  intro p e s m below meth c B K
  have C := B.1
  have hF : Fq L κ ow [1200, 1202, 1203, 1204, 1205, 1206, 1207, 1208, 1209, 1210, 1211, 1213, 1247, 1248, 1249, 1250, 83400, 86600] I I := fq_rf
  have hG : Fq L κ ow [1212] J J := fq_rf
  obtain ⟨b_1, hb_1, hb_1L, hb_1k, hb_1n, hb_1o⟩ := shp_a (W9 x hLx) hkx 46 14 240 rfl (by decide)
  obtain ⟨b_2, hb_2, hb_2L, hb_2k, hb_2n, hb_2o⟩ := shp_a (W9 x hLx) hkx 14 14 389 rfl (by decide)
  refine g_lo (is := [0]) (lo2 := [(0, .ref x)]) rfl ?_
  refine g_aload_n C 0 dX12_sentence_0 rfl rfl ?_
  refine g_sipush C (v := 200) dX12_sentence_1 (by decide) ?_
  refine g_callVV C K (c_X12_begin_e W9 hLx hkx 200 (rg_w rc_200 (by decide) (by decide)) hU) hLx hkx (by decide) rfl v_12_216 rfl ⟨rfl, rfl⟩ ⟨Nat.le_of_ble_eq_true rfl, Nat.le_of_ble_eq_true rfl⟩ (Nat.le_of_ble_eq_true rfl) ⟨Nat.le_of_ble_eq_true rfl, Nat.le_of_ble_eq_true rfl⟩ dX12_sentence_4 rfl (st := []) (fun I_4 J_5 h_6 => ?_)
  obtain ⟨hUI_4, hFI_4, hGJ_5, fx_3, ex_3⟩ := h_6
  have hF_7 := fq_tr hF hFI_4 (by decide)
  have hG_8 := fq_tr hG hGJ_5 (by decide)
  refine g_aload_n C 0 dX12_sentence_7 rfl rfl ?_
  refine g_iconst C (v := 0) dX12_sentence_8 (by decide) ?_
  refine h_putI C K hLx hkx f_12_380 p_12_47 dX12_sentence_9 (fun I_9 hI_9 => ?_)
  have hU_10 := iw_put W9 hUI_4 hI_9 (ro_o hkx (by decide)) (lo := 0) (hi := 60) (rfl) (rg_w rc_0 (by decide) (by decide)) rfl
  have hF_11 := fq_puto hF_7 hI_9 hkx (by decide) (by decide)
  refine g_aload_n C 0 dX12_sentence_12 rfl rfl ?_
  refine g_iconst C (v := 0) dX12_sentence_13 (by decide) ?_
  refine h_putI C K hLx hkx f_12_395 p_12_48 dX12_sentence_14 (fun I_12 hI_12 => ?_)
  have hU_13 := iw_put W9 hU_10 hI_12 (ro_o hkx (by decide)) (lo := 0) (hi := 20) (rfl) (rg_w rc_0 (by decide) (by decide)) rfl
  have hF_14 := fq_puto hF_11 hI_12 hkx (by decide) (by decide)
  refine g_aload_n C 0 dX12_sentence_17 rfl rfl ?_
  refine g_iconst C (v := 0) dX12_sentence_18 (by decide) ?_
  refine h_putI C K hLx hkx f_12_398 p_12_49 dX12_sentence_19 (fun I_15 hI_15 => ?_)
  have hU_16 := iw_put W9 hU_13 hI_15 (ro_o hkx (by decide)) (lo := 0) (hi := 8) (rfl) (rg_w rc_0 (by decide) (by decide)) rfl
  have hF_17 := fq_puto hF_14 hI_15 hkx (by decide) (by decide)
  refine g_aload_n C 0 dX12_sentence_22 rfl rfl ?_
  refine g_callVI C K (c_X12_readOr_0 W9 hLx hkx   hU_16  (by rw [(kp_j hI_15 (by decide) (kp_j hI_12 (by decide) (kp_s hI_9))), (kp_j hI_15 (by decide) (kp_s hI_12))]; decide) ((kp_s hI_15))) hLx hkx (by decide) rfl v_12_413 rfl ⟨rfl, rfl⟩ ⟨Nat.le_of_ble_eq_true rfl, Nat.le_of_ble_eq_true rfl⟩ (Nat.le_of_ble_eq_true rfl) ⟨Nat.le_of_ble_eq_true rfl, Nat.le_of_ble_eq_true rfl⟩ dX12_sentence_23 rfl (st := []) (fun x_18 I_19 J_20 h_21 => ?_)
  obtain ⟨hUI_19, hFI_19, hGJ_20, rx_18, ex_18⟩ := h_21
  have hF_22 := fq_tr hF_17 hFI_19 (by decide)
  have hG_23 := fq_tr hG_8 hGJ_20 (by decide)
  obtain ⟨x_24, hx_24, rx_24⟩ := ex_getw (I := I_19) (a := x) (j := 47) (lo := 0) (hi := 60) hUI_19.1 hLx (ro_o hkx (by decide)) rfl
  obtain ⟨x_25, hx_25, rx_25⟩ := ex_getw (I := I_19) (a := x) (j := 50) (lo := 0) (hi := 59) hUI_19.1 hLx (ro_o hkx (by decide)) rfl
  obtain ⟨x_26, hx_26, rx_26⟩ := ex_getw (I := I_19) (a := x) (j := 48) (lo := 0) (hi := 20) hUI_19.1 hLx (ro_o hkx (by decide)) rfl
  refine g_if_ne C (tgt := 36) dX12_sentence_26 (by decide) (fun h_27 => ?_) (fun h_27 => ?_)
  · skip
    have n_28 : ¬ x_18 = 0 := h_27
    have r_29 := ne_lo (lo := 1) n_28 rx_18 rc_0 rfl (by decide)
    have f_30 := sz_v (kp_j hI_15 (by decide) (kp_j hI_12 (by decide) (kp_s hI_9))) (kp_j hI_15 (by decide) (kp_s hI_12)) hx_24 hx_26 hx_25 (ex_18.1 n_28)
    refine g_aload_n C 0 dX12_sentence_36 rfl rfl ?_
    obtain ⟨x_31, hx_31, rx_31⟩ := ex_getw (I := I_19) (a := x) (j := 7) (lo := 0) (hi := 4) hUI_19.1 hLx (ro_o hkx (by decide)) rfl
    refine g_getI C K hLx hkx f_12_104 (v := x_31) hx_31 dX12_sentence_37 ?_
    refine g_if_eq C (tgt := 56) dX12_sentence_40 (by decide) (fun h_32 => ?_) (fun h_32 => ?_)
    · skip
      have r_33 := (⟨(rx_31).1, (eq_rg (h_32) rc_0).2⟩ : Rg 0 0 x_31)
      refine g_aload_n C 0 dX12_sentence_56 rfl rfl ?_
      refine g_getR C K hLx hkx f_12_13 hb_2 dX12_sentence_57 ?_
      refine g_sipush C (v := 147) dX12_sentence_60 (by decide) ?_
      refine g_iconst C (v := 1) dX12_sentence_63 (by decide) ?_
      refine h_iast C K hb_2L hb_2k (147) (by decide) (by decide) (by rw [hb_2n]; decide) dX12_sentence_64 (fun I_34 hI_34 => ?_)
      have hU_35 := iw_free W9 hUI_19 (uw_put hUI_19.1 hI_34 (ro_a hb_2k (by decide) hb_2o hkx rfl) (lo := (-2147483648)) (hi := 2147483647) (by decide) (rg_all _)) hLx hkx hb_2 hI_34 (by omega)
      have hF_36 := fq_puta hF_22 hI_34 (ro_a hb_2k (by decide) hb_2o hkx rfl) (by decide) (by decide)
      refine g_aload_n C 0 dX12_sentence_65 rfl rfl ?_
      refine g_getR C K hLx hkx f_12_13 hb_2 dX12_sentence_66 ?_
      refine g_sipush C (v := 148) dX12_sentence_69 (by decide) ?_
      refine g_aload_n C 0 dX12_sentence_72 rfl rfl ?_
      refine g_getI C K hLx hkx f_12_386 (v := x_25) (kp_k (κ := κ) hI_34 (by rw [hkx, hb_2k]; decide) hx_25) dX12_sentence_73 ?_
      refine h_iast C K hb_2L hb_2k (148) (by decide) (by decide) (by rw [hb_2n]; decide) dX12_sentence_76 (fun I_37 hI_37 => ?_)
      have hU_38 := iw_free W9 hU_35 (uw_put hU_35.1 hI_37 (ro_a hb_2k (by decide) hb_2o hkx rfl) (lo := 0) (hi := 59) (by decide) (rx_25)) hLx hkx hb_2 hI_37 (by omega)
      have hF_39 := fq_puta hF_36 hI_37 (ro_a hb_2k (by decide) hb_2o hkx rfl) (by decide) (by decide)
      refine g_iconst C (v := 0) dX12_sentence_77 (by decide) ?_
      refine g_istore_n C dX12_sentence_78 rfl (by decide) (lo2 := [(1, .int 0), (0, .ref x)]) rfl ?_
      refine g_lo (is := [1, 0]) (lo2 := [(0, .ref x), (1, .int 0)]) rfl ?_
      have ex_79 : ∀ (I_41 : Nat → Nat → Int32) (hI_41 : I_41 = cpn_ I_37 b_1 b_2 (0) (149) 240) (v_40 : Int32) (rv_40 : Rg 240 240 v_40), WG p l e { frames := 38, cells := 0, slots := 0, locals := 814 } s m ([.ref x] : List Value).toArray below meth c 2 0 0 (MQ below (Qi_ D cy L κ ln R (fun r I2 J2 => Iw L κ R ow I2 ∧ Fq L κ ow [1200, 1202, 1203, 1204, 1205, 1206, 1207, 1208, 1209, 1210, 1211, 1213, 1247, 1248, 1249, 1250, 83400, 86600] I I2 ∧ Fq L κ ow [1212] J J2 ∧ Rg (-2147483648) 2147483647 r ∧ (Hd_ R x I I2) ∧ ((I2 x 2) = 0))) ([.ref x] : List Value).toArray s 0 0 (Al_ L)) D cy (Al_ L) s.heap L κ ln R I_41 J_20 108 [(0, .ref x), (1, .int v_40)] [] := by
        intro I_41 hI_41 v_40 rv_40
        have hF_42 := fq_cpn hF_39 hI_41 (ro_a hb_2k (by decide) hb_2o hkx rfl) (by decide) (by decide)
        have hU_43 := uw_cpn hU_38.1 hb_1L hI_41 (ro_a hb_2k (by decide) hb_2o hkx rfl) (ro_a hb_1k (by decide) hb_1o hkx rfl) (fun i hi => by rw [bn_834, zq_149 (by omega)]; exact ⟨Int.le_refl _, Int.le_refl _⟩)
        have hU_44 := iw_se W9 hU_38 hU_43 hLx hkx hb_2 hb_1 hI_41
        refine g_aload_n C 0 dX12_sentence_108 rfl rfl ?_
        refine g_getI C K hLx hkx f_12_395 (v := x_26) (kp_cn (κ := κ) hI_41 (by rw [hkx, hb_2k]; decide) (kp_k (κ := κ) hI_37 (by rw [hkx, hb_2k]; decide) (kp_k (κ := κ) hI_34 (by rw [hkx, hb_2k]; decide) hx_26))) dX12_sentence_109 ?_
        have q_45 := (kp_cn (κ := κ) hI_41 (by rw [hkx, hb_2k]; decide) (kp_k (κ := κ) hI_37 (by rw [hkx, hb_2k]; decide) (kp_k (κ := κ) hI_34 (by rw [hkx, hb_2k]; decide) (fq_at hFI_19 hLx hkx (by decide) (by decide) (kp_j hI_15 (by decide) (kp_j hI_12 (by decide) (kp_j hI_9 (by decide) ex_3)))))))
        exact g_zret (ty := .int) (r := x_26) B K rfl (rfl) ⟨hU_44, hF_42, hG_23, rg_all _, (hd_c (r := 0) W9 hLx hkx (hd_u (r := 0) W9 hLx hkx (hd_u (r := 0) W9 hLx hkx (hd_fq W9 hLx hkx (hd_u (r := 0) W9 hLx hkx (hd_u (r := 0) W9 hLx hkx (hd_u (r := 0) W9 hLx hkx (hd_fq W9 hLx hkx hd_rf hFI_4 (by decide)) hI_9 (Or.inl (ro_o hkx (by decide)))) hI_12 (Or.inl (ro_o hkx (by decide)))) hI_15 (Or.inl (ro_o hkx (by decide)))) hFI_19 (by decide)) hI_34 (Or.inr (Or.inr (by decide)))) hI_37 (Or.inr (Or.inr (by decide)))) hI_41 (Or.inr (by omega))), (q_45)⟩ dX12_sentence_112
      have l_79 : ∀ (m_79 : Nat) (v_46 : Int32) (I_47 : Nat → Nat → Int32), v_46.toInt + (m_79 : Int) = 240 → 0 ≤ v_46.toInt → I_47 = cpn_ I_37 b_1 b_2 (0) (149) v_46.toNatClampNeg → WG p l e { frames := 38, cells := 0, slots := 0, locals := 814 } s m ([.ref x] : List Value).toArray below meth c 2 0 0 (MQ below (Qi_ D cy L κ ln R (fun r I2 J2 => Iw L κ R ow I2 ∧ Fq L κ ow [1200, 1202, 1203, 1204, 1205, 1206, 1207, 1208, 1209, 1210, 1211, 1213, 1247, 1248, 1249, 1250, 83400, 86600] I I2 ∧ Fq L κ ow [1212] J J2 ∧ Rg (-2147483648) 2147483647 r ∧ (Hd_ R x I I2) ∧ ((I2 x 2) = 0))) ([.ref x] : List Value).toArray s 0 0 (Al_ L)) D cy (Al_ L) s.heap L κ ln R I_47 J_20 79 [(0, .ref x), (1, .int v_46)] [] := by
        intro m_79
        induction m_79 with
        | zero =>
          intro v_46 I_47 hk_79 h0_79 hI_47
          have rv_46 : Rg 240 240 v_46 := by unfold Rg; omega
          refine g_iload_n C 1 dX12_sentence_79 rfl rfl ?_
          refine g_sipush C (v := 240) dX12_sentence_80 (by decide) ?_
          refine g_icmp_ge C (tgt := 108) dX12_sentence_83 (by decide) (fun h_48 => ?_) (fun h_48 => ?_)
          · skip
            refine g_lo (is := [0, 1]) (lo2 := [(0, .ref x), (1, .int v_46)]) rfl ?_
            exact ex_79 I_47 (hI_47.trans (congrArg (fun q => cpn_ I_37 b_1 b_2 (0) (149) q) (show v_46.toNatClampNeg = 240 from by have := ix_n rv_46 (by decide); have := rv_46.1; have := rv_46.2; omega))) v_46 rv_46
          · skip
            have r_49 := lt_l (hi := 239) (nle h_48) rv_46 rc_240 (by decide)
            exact rg_no r_49 (by decide)
        | succ m_79 ih_79 =>
          intro v_46 I_47 hk_79 h0_79 hI_47
          have rv_46 : Rg 0 239 v_46 := by unfold Rg; omega
          refine g_iload_n C 1 dX12_sentence_79 rfl rfl ?_
          refine g_sipush C (v := 240) dX12_sentence_80 (by decide) ?_
          refine g_icmp_ge C (tgt := 108) dX12_sentence_83 (by decide) (fun h_50 => ?_) (fun h_50 => ?_)
          · skip
            have r_51 := le_r (h_50) rc_240 rv_46
            exact rg_no r_51 (by decide)
          · skip
            refine g_aload_n C 0 dX12_sentence_86 rfl rfl ?_
            refine g_getR C K hLx hkx f_12_13 hb_2 dX12_sentence_87 ?_
            refine g_sipush C (v := 149) dX12_sentence_90 (by decide) ?_
            refine g_iload_n C 1 dX12_sentence_93 rfl rfl ?_
            obtain ⟨x_52, hx_52, rx_52, tx_52⟩ := ex_add 149 388 rc_149 rv_46 (by decide) (by decide) (by decide) (by decide)
            refine g_iadd C (v := x_52) dX12_sentence_94 hx_52 ?_
            refine g_aload_n C 0 dX12_sentence_95 rfl rfl ?_
            refine g_getR C K hLx hkx f_12_79 hb_1 dX12_sentence_96 ?_
            refine g_iload_n C 1 dX12_sentence_99 rfl rfl ?_
            obtain ⟨x_53, hx_53, rx_53⟩ := ex_any (z0 := I_47 b_1 (v_46.toNatClampNeg))
            refine h_iald C K hb_1L hb_1k (v := x_53) (v_46.toNatClampNeg) (rfl) (ix_0 rv_46 (by decide)) (ix_lt rv_46 (by decide) hb_1n (by decide)) hx_53 dX12_sentence_100 ?_
            refine h_iast C K hb_2L hb_2k (x_52.toNatClampNeg) (rfl) (ix_0 rx_52 (by decide)) (ix_lt rx_52 (by decide) hb_2n (by decide)) dX12_sentence_101 (fun I_54 hI_54 => ?_)
            obtain ⟨x_55, hx_55, rx_55, tx_55⟩ := ex_add (y := 1) 1 240 rv_46 rc_1 (by decide) (by decide) (by decide) (by decide)
            refine g_iinc C dX12_sentence_102 (k := 1) (v := x_55) rfl hx_55 (by decide) (lo2 := [(1, .int x_55), (0, .ref x)]) rfl ?_
            refine g_goto C (tgt := 79) dX12_sentence_105 (by decide) ?_
            refine g_lo (is := [1, 0]) (lo2 := [(0, .ref x), (1, .int x_55)]) rfl ?_
            have kk_79 : x_55.toNatClampNeg = v_46.toNatClampNeg + 1 := by have q1 := ix_n rv_46 (by decide); have q2 := (ti_k tx_55 rc_1); have q3 : x_55.toNatClampNeg = x_55.toInt.toNat := rfl; omega
            exact ih_79 x_55 I_54 (by have := (ti_k tx_55 rc_1); omega) (by have := (ti_k tx_55 rc_1); omega) (by rw [kk_79]; exact cpn_s hI_47 hx_53 hI_54 (show v_46.toNatClampNeg = (0) + v_46.toNatClampNeg from by omega) (show x_52.toNatClampNeg = (149) + v_46.toNatClampNeg from by rw [nx_a tx_52 rc_149 rv_46 (by decide)]; simp only [show (149 : Int32).toNatClampNeg = 149 from rfl] <;> omega) (Or.inl (ne_ro (ro_a hb_1k (by decide) hb_1o hkx rfl) (ro_a hb_2k (by decide) hb_2o hkx rfl) (by decide))))
      exact l_79 240 0 I_37 (by decide) (by decide) cpn_0
    · skip
      have n_56 : ¬ x_31 = 0 := h_32
      have r_57 := ne_lo (lo := 1) n_56 rx_31 rc_0 rfl (by decide)
      refine g_aload_n C 0 dX12_sentence_43 rfl rfl ?_
      refine g_iconst C (v := 1) dX12_sentence_44 (by decide) ?_
      refine g_callVI C K (c_X12_bad W9 hLx hkx 1 (rg_w rc_1 (by decide) (by decide)) hUI_19) hLx hkx (by decide) rfl v_12_146 rfl ⟨rfl, rfl⟩ ⟨Nat.le_of_ble_eq_true rfl, Nat.le_of_ble_eq_true rfl⟩ (Nat.le_of_ble_eq_true rfl) ⟨Nat.le_of_ble_eq_true rfl, Nat.le_of_ble_eq_true rfl⟩ dX12_sentence_45 rfl (st := []) (fun x_58 I_59 J_60 h_61 => ?_)
      obtain ⟨hUI_59, hFI_59, hGJ_60, rx_58, fx_58⟩ := h_61
      have hF_62 := fq_tr hF_22 hFI_59 (by decide)
      have hG_63 := fq_tr hG_23 hGJ_60 (by decide)
      refine g_pop C dX12_sentence_48 rfl ?_
      refine g_iconst C (v := (-1)) dX12_sentence_49 (by decide) ?_
      refine g_aload_n C 0 dX12_sentence_50 rfl rfl ?_
      obtain ⟨x_64, hx_64, rx_64⟩ := ex_getw (I := I_59) (a := x) (j := 11) (lo := (-2147483648)) (hi := 2147483647) hUI_59.1 hLx (ro_o hkx (by decide)) rfl
      refine g_getI C K hLx hkx f_12_143 (v := x_64) hx_64 dX12_sentence_51 ?_
      obtain ⟨x_65, hx_65, rx_65, tx_65⟩ := ex_sub (-2147483648) 2147483647 rc_m1 rx_64 (by decide) (by decide) (by decide) (by decide)
      refine g_isub C (v := x_65) dX12_sentence_54 hx_65 ?_
      exact g_zret (ty := .int) (r := x_65) B K rfl (rfl) ⟨hUI_59, hF_62, hG_63, rx_65, (hd_fq W9 hLx hkx (hd_fq W9 hLx hkx (hd_u (r := 0) W9 hLx hkx (hd_u (r := 0) W9 hLx hkx (hd_u (r := 0) W9 hLx hkx (hd_fq W9 hLx hkx hd_rf hFI_4 (by decide)) hI_9 (Or.inl (ro_o hkx (by decide)))) hI_12 (Or.inl (ro_o hkx (by decide)))) hI_15 (Or.inl (ro_o hkx (by decide)))) hFI_19 (by decide)) hFI_59 (by decide)), ((fq_at hFI_59 hLx hkx (by decide) (by decide) (fq_at hFI_19 hLx hkx (by decide) (by decide) (kp_j hI_15 (by decide) (kp_j hI_12 (by decide) (kp_j hI_9 (by decide) ex_3))))))⟩ dX12_sentence_55
  · skip
    have r_66 := (⟨(rx_18).1, (eq_rg (h_27) rc_0).2⟩ : Rg 0 0 x_18)
    refine g_iconst C (v := (-1)) dX12_sentence_29 (by decide) ?_
    refine g_aload_n C 0 dX12_sentence_30 rfl rfl ?_
    obtain ⟨x_67, hx_67, rx_67⟩ := ex_getw (I := I_19) (a := x) (j := 11) (lo := (-2147483648)) (hi := 2147483647) hUI_19.1 hLx (ro_o hkx (by decide)) rfl
    refine g_getI C K hLx hkx f_12_143 (v := x_67) hx_67 dX12_sentence_31 ?_
    obtain ⟨x_68, hx_68, rx_68, tx_68⟩ := ex_sub (-2147483648) 2147483647 rc_m1 rx_67 (by decide) (by decide) (by decide) (by decide)
    refine g_isub C (v := x_68) dX12_sentence_34 hx_68 ?_
    exact g_zret (ty := .int) (r := x_68) B K rfl (rfl) ⟨hUI_19, hF_22, hG_23, rx_68, (hd_fq W9 hLx hkx (hd_u (r := 0) W9 hLx hkx (hd_u (r := 0) W9 hLx hkx (hd_u (r := 0) W9 hLx hkx (hd_fq W9 hLx hkx hd_rf hFI_4 (by decide)) hI_9 (Or.inl (ro_o hkx (by decide)))) hI_12 (Or.inl (ro_o hkx (by decide)))) hI_15 (Or.inl (ro_o hkx (by decide)))) hFI_19 (by decide)), ((fq_at hFI_19 hLx hkx (by decide) (by decide) (kp_j hI_15 (by decide) (kp_j hI_12 (by decide) (kp_j hI_9 (by decide) ex_3)))))⟩ dX12_sentence_35
set_option maxRecDepth 100000 in
set_option maxHeartbeats 8000000 in
theorem c_X12_isIn_e {l : Launch} {D : va_G} {cy : Nat → ClassId} {L : List Nat} {κ ln : Nat → Nat} {R : Nat → Nat → Option Nat} {I : Nat → Nat → Int32} {J : Nat → Nat → Int64} {ow : Nat → Nat × Nat} (W9 : ∀ a ∈ L, Shp L κ ln R ow a) (a0 : Int32) (a1 : Int32) (a2 : Int32) (hU : Iw L κ R ow I) : CtI l yX12_isIn cX12_isIn 3 (some .boolean) { frames := 0, cells := 0, slots := 0, locals := 0 } D cy L κ ln R I J [.int a0, .int a1, .int a2] (fun r I2 J2 => I = I2 ∧ J = J2 ∧ Rg 0 1 r ∧ (r = isIn_ a0 a1 a2) ∧ (r = 0 → a0.toInt < a1.toInt ∨ a2.toInt < a0.toInt) ∧ (¬ r = 0 → a1 ≤ a0) ∧ (¬ r = 0 → a0 ≤ a2)) := by
  refine CtI.of (by decide +kernel) (Nat.le_of_ble_eq_true rfl) ?_
  intro p e s m below meth c B K
  have C := B.1
  refine g_lo (is := [0, 1, 2]) (lo2 := [(0, .int a0), (1, .int a1), (2, .int a2)]) rfl ?_
  refine g_iload_n C 0 dX12_isIn_0 rfl rfl ?_
  refine g_iload_n C 1 dX12_isIn_1 rfl rfl ?_
  refine g_icmp_lt C (tgt := 14) dX12_isIn_2 (by decide) (fun h_1 => ?_) (fun h_1 => ?_)
  · skip
    have r_2 := lt_l (hi := 2147483646) (h_1) (rg_all a0) (rg_all a1) (by decide)
    have r_3 := lt_r (lo := (-2147483647)) (h_1) (rg_all a0) (rg_all a1) (by decide)
    refine g_iconst C (v := 0) dX12_isIn_14 (by decide) ?_
    exact g_zret (ty := .boolean) (r := 0) B K rfl (rfl) ⟨rfl, rfl, rg_w rc_0 (by decide) (by decide), (by simp only [isIn_, h_1, if_true, if_false]), (fun _ => Or.inl (Int32.lt_iff_toInt_lt.mp (h_1))), (fun q => absurd rfl q), (fun q => absurd rfl q)⟩ dX12_isIn_15
  · skip
    refine g_iload_n C 0 dX12_isIn_5 rfl rfl ?_
    refine g_iload_n C 2 dX12_isIn_6 rfl rfl ?_
    refine g_icmp_gt C (tgt := 14) dX12_isIn_7 (by decide) (fun h_4 => ?_) (fun h_4 => ?_)
    · skip
      have r_5 := lt_l (hi := 2147483646) (h_4) (rg_all a2) (rg_all a0) (by decide)
      have r_6 := lt_r (lo := (-2147483647)) (h_4) (rg_all a2) (rg_all a0) (by decide)
      refine g_iconst C (v := 0) dX12_isIn_14 (by decide) ?_
      exact g_zret (ty := .boolean) (r := 0) B K rfl (rfl) ⟨rfl, rfl, rg_w rc_0 (by decide) (by decide), (by simp only [isIn_, h_1, (nlt h_1), h_4, if_true, if_false]), (fun _ => Or.inr (Int32.lt_iff_toInt_lt.mp (h_4))), (fun q => absurd rfl q), (fun q => absurd rfl q)⟩ dX12_isIn_15
    · skip
      refine g_iconst C (v := 1) dX12_isIn_10 (by decide) ?_
      refine g_goto C (tgt := 15) dX12_isIn_11 (by decide) ?_
      exact g_zret (ty := .boolean) (r := 1) B K rfl (rfl) ⟨rfl, rfl, rg_w rc_1 (by decide) (by decide), (by simp only [isIn_, h_1, (nlt h_1), h_4, (nlt h_4), if_true, if_false]), (fun q => absurd q (by decide)), (fun _ => nlt h_1), (fun _ => nlt h_4)⟩ dX12_isIn_15
set_option maxRecDepth 100000 in
set_option maxHeartbeats 8000000 in
theorem c_X12_book_e {l : Launch} {D : va_G} {cy : Nat → ClassId} {L : List Nat} {κ ln : Nat → Nat} {R : Nat → Nat → Option Nat} {I : Nat → Nat → Int32} {J : Nat → Nat → Int64} {ow : Nat → Nat × Nat} (W9 : ∀ a ∈ L, Shp L κ ln R ow a) {x : Nat} (hLx : x ∈ L) (hkx : κ x = 12) (a0 : Int32) (hU : Iw L κ R ow I) : CtI l yX12_book cX12_book 4 (some .int) { frames := 6, cells := 0, slots := 0, locals := 143 } D cy L κ ln R I J [.ref x, .int a0] (fun r I2 J2 => Iw L κ R ow I2 ∧ Fq L κ ow [1200, 1202, 1203, 1204, 1205, 1206, 1207, 1208, 1209, 1210, 1211, 1213, 1223, 1244, 1245, 83400, 83700, 83800, 86200, 86300] I I2 ∧ Fq L κ ow [1212] J J2 ∧ Rg (-2147483648) 2147483647 r ∧ (Hd_ R x I I2) ∧ (Tb_ (I x 2) (I2 x 2) a0)) := by
  obtain ⟨x_1, hx_1, rx_1⟩ := ex_getw (I := I) (a := x) (j := 2) (lo := 0) (hi := 940) hU.1 hLx (ro_o hkx (by decide)) rfl
  refine CtI.of (by decide +kernel) (Nat.le_of_ble_eq_true rfl) ?_
  intro p e s m below meth c B K
  have C := B.1
  have hF : Fq L κ ow [1200, 1202, 1203, 1204, 1205, 1206, 1207, 1208, 1209, 1210, 1211, 1213, 1223, 1244, 1245, 83400, 83700, 83800, 86200, 86300] I I := fq_rf
  have hG : Fq L κ ow [1212] J J := fq_rf
  obtain ⟨b_2, hb_2, hb_2L, hb_2k, hb_2n, hb_2o⟩ := shp_a (W9 x hLx) hkx 14 14 389 rfl (by decide)
  obtain ⟨b_3, hb_3, hb_3L, hb_3k, hb_3n, hb_3o⟩ := shp_a (W9 x hLx) hkx 43 14 4 rfl (by decide)
  obtain ⟨b_4, hb_4, hb_4L, hb_4k, hb_4n, hb_4o⟩ := shp_a (W9 x hLx) hkx 42 14 160 rfl (by decide)
  refine g_lo (is := [0, 1]) (lo2 := [(0, .ref x), (1, .int a0)]) rfl ?_
  have j_103 : ∀ (I_5 : Nat → Nat → Int32) (J_6 : Nat → Nat → Int64) (hU_7 : Iw L κ R ow I_5) (hF_8 : Fq L κ ow [1200, 1202, 1203, 1204, 1205, 1206, 1207, 1208, 1209, 1210, 1211, 1213, 1223, 1244, 1245, 83400, 83700, 83800, 86200, 86300] I I_5) (hG_9 : Fq L κ ow [1212] J J_6) (r_10 : Rg 0 1 a0) (v_11 : Int32) (rv_11 : Rg 0 40 v_11) (v_12 : Int32) (rv_12 : Rg 0 61 v_12) (v_13 : Int32) (rv_13 : Rg 0 40 v_13) (v_14 : Int32) (rv_14 : Rg 0 0 v_14) (q_15 : I_5 x 2 = 0) (q_16 : I_5 x 44 = v_13) (q_17 : I_5 x 7 = v_14) (hd_18 : Hd_ R x I I_5) (ga_19 : Ga_ R x I_5), WG p l e { frames := 6, cells := 0, slots := 0, locals := 143 } s m ([.ref x, .int a0] : List Value).toArray below meth c 4 0 0 (MQ below (Qi_ D cy L κ ln R (fun r I2 J2 => Iw L κ R ow I2 ∧ Fq L κ ow [1200, 1202, 1203, 1204, 1205, 1206, 1207, 1208, 1209, 1210, 1211, 1213, 1223, 1244, 1245, 83400, 83700, 83800, 86200, 86300] I I2 ∧ Fq L κ ow [1212] J J2 ∧ Rg (-2147483648) 2147483647 r ∧ (Hd_ R x I I2) ∧ (Tb_ (I x 2) (I2 x 2) a0))) ([.ref x, .int a0] : List Value).toArray s 0 0 (Al_ L)) D cy (Al_ L) s.heap L κ ln R I_5 J_6 103 [(0, .ref x), (1, .int a0), (2, .int v_11), (3, .int v_12)] [] := by
    intro I_5 J_6 hU_7 hF_8 hG_9 r_10 v_11 rv_11 v_12 rv_12 v_13 rv_13 v_14 rv_14 q_15 q_16 q_17 hd_18 ga_19
    refine g_aload_n C 0 dX12_book_103 rfl rfl ?_
    refine g_getR C K hLx hkx f_12_76 hb_3 dX12_book_104 ?_
    refine g_iconst C (v := 0) dX12_book_107 (by decide) ?_
    refine g_iload_n C 3 dX12_book_108 rfl rfl ?_
    refine h_iast C K hb_3L hb_3k (0) (by decide) (by decide) (by rw [hb_3n]; decide) dX12_book_109 (fun I_20 hI_20 => ?_)
    have hU_21 := iw_put W9 hU_7 hI_20 (ro_a hb_3k (by decide) hb_3o hkx rfl) (lo := (-2147483648)) (hi := 2147483647) (rfl) (rg_all _) rfl
    have hF_22 := fq_puta hF_8 hI_20 (ro_a hb_3k (by decide) hb_3o hkx rfl) (by decide) (by decide)
    refine g_aload_n C 0 dX12_book_110 rfl rfl ?_
    refine g_getR C K hLx hkx f_12_76 hb_3 dX12_book_111 ?_
    refine g_iconst C (v := 1) dX12_book_114 (by decide) ?_
    refine g_iload_n C 2 dX12_book_115 rfl rfl ?_
    refine h_iast C K hb_3L hb_3k (1) (by decide) (by decide) (by rw [hb_3n]; decide) dX12_book_116 (fun I_23 hI_23 => ?_)
    have hU_24 := iw_put W9 hU_21 hI_23 (ro_a hb_3k (by decide) hb_3o hkx rfl) (lo := (-2147483648)) (hi := 2147483647) (rfl) (rg_all _) rfl
    have hF_25 := fq_puta hF_22 hI_23 (ro_a hb_3k (by decide) hb_3o hkx rfl) (by decide) (by decide)
    refine g_aload_n C 0 dX12_book_117 rfl rfl ?_
    refine g_getR C K hLx hkx f_12_76 hb_3 dX12_book_118 ?_
    refine g_iconst C (v := 2) dX12_book_121 (by decide) ?_
    refine g_aload_n C 0 dX12_book_122 rfl rfl ?_
    refine g_getR C K hLx hkx f_12_13 hb_2 dX12_book_123 ?_
    refine g_bipush C (v := 72) dX12_book_126 (by decide) ?_
    obtain ⟨x_26, hx_26, rx_26⟩ := ex_any (z0 := I_23 b_2 (72))
    refine h_iald C K hb_2L hb_2k (v := x_26) (72) (by decide) (by decide) (by rw [hb_2n]; decide) hx_26 dX12_book_128 ?_
    refine h_iast C K hb_3L hb_3k (2) (by decide) (by decide) (by rw [hb_3n]; decide) dX12_book_129 (fun I_27 hI_27 => ?_)
    have hU_28 := iw_put W9 hU_24 hI_27 (ro_a hb_3k (by decide) hb_3o hkx rfl) (lo := (-2147483648)) (hi := 2147483647) (rfl) (rx_26) rfl
    have hF_29 := fq_puta hF_25 hI_27 (ro_a hb_3k (by decide) hb_3o hkx rfl) (by decide) (by decide)
    refine g_aload_n C 0 dX12_book_130 rfl rfl ?_
    refine g_getR C K hLx hkx f_12_76 hb_3 dX12_book_131 ?_
    refine g_iconst C (v := 3) dX12_book_134 (by decide) ?_
    refine g_aload_n C 0 dX12_book_135 rfl rfl ?_
    refine g_getR C K hLx hkx f_12_13 hb_2 dX12_book_136 ?_
    refine g_bipush C (v := 73) dX12_book_139 (by decide) ?_
    obtain ⟨x_30, hx_30, rx_30⟩ := ex_any (z0 := I_27 b_2 (73))
    refine h_iald C K hb_2L hb_2k (v := x_30) (73) (by decide) (by decide) (by rw [hb_2n]; decide) hx_30 dX12_book_141 ?_
    refine h_iast C K hb_3L hb_3k (3) (by decide) (by decide) (by rw [hb_3n]; decide) dX12_book_142 (fun I_31 hI_31 => ?_)
    have hU_32 := iw_put W9 hU_28 hI_31 (ro_a hb_3k (by decide) hb_3o hkx rfl) (lo := (-2147483648)) (hi := 2147483647) (rfl) (rx_30) rfl
    have hF_33 := fq_puta hF_29 hI_31 (ro_a hb_3k (by decide) hb_3o hkx rfl) (by decide) (by decide)
    refine g_aload_n C 0 dX12_book_143 rfl rfl ?_
    refine g_iconst C (v := 1) dX12_book_144 (by decide) ?_
    refine h_putZ C K hLx hkx f_12_373 p_12_45 (rg_bool (rg_w rc_1 (by decide) (by decide))) dX12_book_145 (fun I_34 hI_34 => ?_)
    have hU_35 := iw_put W9 hU_32 hI_34 (ro_o hkx (by decide)) (lo := 0) (hi := 1) (rfl) (rg_w rc_1 (by decide) (by decide)) rfl
    have hF_36 := fq_puto hF_33 hI_34 hkx (by decide) (by decide)
    refine g_aload_n C 0 dX12_book_148 rfl rfl ?_
    refine g_iload_n C 1 dX12_book_149 rfl rfl ?_
    refine g_iconst C (v := 1) dX12_book_150 (by decide) ?_
    refine g_icmp_ne C (tgt := 162) dX12_book_151 (by decide) (fun h_37 => ?_) (fun h_37 => ?_)
    · skip
      have n_38 : ¬ a0 = 1 := h_37
      have r_39 := ne_hi (hi := 0) n_38 r_10 rc_1 rfl (by decide)
      refine g_iconst C (v := 0) dX12_book_162 (by decide) ?_
      refine g_callVV C K (c_X12_stay W9 hLx hkx 0 (rg_w rc_0 (by decide) (by decide)) hU_35  ((ga_u (r := 0) W9 hLx hkx (ga_u W9 hLx hkx (ga_u W9 hLx hkx (ga_u W9 hLx hkx (ga_u W9 hLx hkx ga_19 hI_20 (Or.inr (Or.inl ⟨(ro_a hb_3k (by decide) hb_3o hkx rfl), by decide, by decide⟩))) hI_23 (Or.inr (Or.inl ⟨(ro_a hb_3k (by decide) hb_3o hkx rfl), by decide, by decide⟩))) hI_27 (Or.inr (Or.inl ⟨(ro_a hb_3k (by decide) hb_3o hkx rfl), by decide, by decide⟩))) hI_31 (Or.inr (Or.inl ⟨(ro_a hb_3k (by decide) hb_3o hkx rfl), by decide, by decide⟩))) hI_34 (Or.inl (ro_o hkx (by decide)))))) hLx hkx (by decide) rfl v_12_376 rfl ⟨rfl, rfl⟩ ⟨Nat.le_of_ble_eq_true rfl, Nat.le_of_ble_eq_true rfl⟩ (Nat.le_of_ble_eq_true rfl) ⟨Nat.le_of_ble_eq_true rfl, Nat.le_of_ble_eq_true rfl⟩ dX12_book_163 rfl (st := []) (fun I_41 J_42 h_43 => ?_)
      obtain ⟨hUI_41, hFI_41, hGJ_42, ex_40⟩ := h_43
      have hF_44 := fq_tr hF_36 hFI_41 (by decide)
      have hG_45 := fq_tr hG_9 hGJ_42 (by decide)
      refine g_iload_n C 3 dX12_book_166 rfl rfl ?_
      refine g_if_ne C (tgt := 174) dX12_book_167 (by decide) (fun h_46 => ?_) (fun h_46 => ?_)
      · skip
        have n_47 : ¬ v_12 = 0 := h_46
        have r_48 := ne_lo (lo := 1) n_47 rv_12 rc_0 rfl (by decide)
        refine g_iload_n C 2 dX12_book_174 rfl rfl ?_
        have q_49 := (fq_at hFI_41 hLx hkx (by decide) (by decide) (kp_j hI_34 (by decide) (kp_k (κ := κ) hI_31 (by rw [hkx, hb_3k]; decide) (kp_k (κ := κ) hI_27 (by rw [hkx, hb_3k]; decide) (kp_k (κ := κ) hI_23 (by rw [hkx, hb_3k]; decide) (kp_k (κ := κ) hI_20 (by rw [hkx, hb_3k]; decide) q_15))))))
        exact g_zret (ty := .int) (r := v_11) B K rfl (rfl) ⟨hUI_41, hF_44, hG_45, rg_all _, (hd_t (hd_u (r := 0) W9 hLx hkx (hd_u W9 hLx hkx (hd_u W9 hLx hkx (hd_u W9 hLx hkx (hd_u W9 hLx hkx hd_18 hI_20 (Or.inr (Or.inl ⟨(ro_a hb_3k (by decide) hb_3o hkx rfl), by decide⟩))) hI_23 (Or.inr (Or.inl ⟨(ro_a hb_3k (by decide) hb_3o hkx rfl), by decide⟩))) hI_27 (Or.inr (Or.inl ⟨(ro_a hb_3k (by decide) hb_3o hkx rfl), by decide⟩))) hI_31 (Or.inr (Or.inl ⟨(ro_a hb_3k (by decide) hb_3o hkx rfl), by decide⟩))) hI_34 (Or.inl (ro_o hkx (by decide)))) ex_40), (Or.inl ⟨Or.inl (rg_1k r_39 rc_0), q_49⟩)⟩ dX12_book_175
      · skip
        have r_50 := (⟨(rv_12).1, (eq_rg (h_46) rc_0).2⟩ : Rg 0 0 v_12)
        refine g_iconst C (v := (-1)) dX12_book_170 (by decide) ?_
        refine g_goto C (tgt := 175) dX12_book_171 (by decide) ?_
        have q_51 := (fq_at hFI_41 hLx hkx (by decide) (by decide) (kp_j hI_34 (by decide) (kp_k (κ := κ) hI_31 (by rw [hkx, hb_3k]; decide) (kp_k (κ := κ) hI_27 (by rw [hkx, hb_3k]; decide) (kp_k (κ := κ) hI_23 (by rw [hkx, hb_3k]; decide) (kp_k (κ := κ) hI_20 (by rw [hkx, hb_3k]; decide) q_15))))))
        exact g_zret (ty := .int) (r := (-1)) B K rfl (rfl) ⟨hUI_41, hF_44, hG_45, rg_all _, (hd_t (hd_u (r := 0) W9 hLx hkx (hd_u W9 hLx hkx (hd_u W9 hLx hkx (hd_u W9 hLx hkx (hd_u W9 hLx hkx hd_18 hI_20 (Or.inr (Or.inl ⟨(ro_a hb_3k (by decide) hb_3o hkx rfl), by decide⟩))) hI_23 (Or.inr (Or.inl ⟨(ro_a hb_3k (by decide) hb_3o hkx rfl), by decide⟩))) hI_27 (Or.inr (Or.inl ⟨(ro_a hb_3k (by decide) hb_3o hkx rfl), by decide⟩))) hI_31 (Or.inr (Or.inl ⟨(ro_a hb_3k (by decide) hb_3o hkx rfl), by decide⟩))) hI_34 (Or.inl (ro_o hkx (by decide)))) ex_40), (Or.inl ⟨Or.inl (rg_1k r_39 rc_0), q_51⟩)⟩ dX12_book_175
    · skip
      have r_52 := (⟨(eq_rg (h_37) rc_1).1, (r_10).2⟩ : Rg 1 1 a0)
      refine g_iload_n C 2 dX12_book_154 rfl rfl ?_
      refine g_if_le C (tgt := 162) dX12_book_155 (by decide) (fun h_53 => ?_) (fun h_53 => ?_)
      · skip
        have r_54 := le_l (h_53) rv_11 rc_0
        refine g_iconst C (v := 0) dX12_book_162 (by decide) ?_
        refine g_callVV C K (c_X12_stay W9 hLx hkx 0 (rg_w rc_0 (by decide) (by decide)) hU_35  ((ga_u (r := 0) W9 hLx hkx (ga_u W9 hLx hkx (ga_u W9 hLx hkx (ga_u W9 hLx hkx (ga_u W9 hLx hkx ga_19 hI_20 (Or.inr (Or.inl ⟨(ro_a hb_3k (by decide) hb_3o hkx rfl), by decide, by decide⟩))) hI_23 (Or.inr (Or.inl ⟨(ro_a hb_3k (by decide) hb_3o hkx rfl), by decide, by decide⟩))) hI_27 (Or.inr (Or.inl ⟨(ro_a hb_3k (by decide) hb_3o hkx rfl), by decide, by decide⟩))) hI_31 (Or.inr (Or.inl ⟨(ro_a hb_3k (by decide) hb_3o hkx rfl), by decide, by decide⟩))) hI_34 (Or.inl (ro_o hkx (by decide)))))) hLx hkx (by decide) rfl v_12_376 rfl ⟨rfl, rfl⟩ ⟨Nat.le_of_ble_eq_true rfl, Nat.le_of_ble_eq_true rfl⟩ (Nat.le_of_ble_eq_true rfl) ⟨Nat.le_of_ble_eq_true rfl, Nat.le_of_ble_eq_true rfl⟩ dX12_book_163 rfl (st := []) (fun I_56 J_57 h_58 => ?_)
        obtain ⟨hUI_56, hFI_56, hGJ_57, ex_55⟩ := h_58
        have hF_59 := fq_tr hF_36 hFI_56 (by decide)
        have hG_60 := fq_tr hG_9 hGJ_57 (by decide)
        refine g_iload_n C 3 dX12_book_166 rfl rfl ?_
        refine g_if_ne C (tgt := 174) dX12_book_167 (by decide) (fun h_61 => ?_) (fun h_61 => ?_)
        · skip
          have n_62 : ¬ v_12 = 0 := h_61
          have r_63 := ne_lo (lo := 1) n_62 rv_12 rc_0 rfl (by decide)
          refine g_iload_n C 2 dX12_book_174 rfl rfl ?_
          have q_64 := (fq_at hFI_56 hLx hkx (by decide) (by decide) (kp_j hI_34 (by decide) (kp_k (κ := κ) hI_31 (by rw [hkx, hb_3k]; decide) (kp_k (κ := κ) hI_27 (by rw [hkx, hb_3k]; decide) (kp_k (κ := κ) hI_23 (by rw [hkx, hb_3k]; decide) (kp_k (κ := κ) hI_20 (by rw [hkx, hb_3k]; decide) q_15))))))
          exact g_zret (ty := .int) (r := v_11) B K rfl (rfl) ⟨hUI_56, hF_59, hG_60, rg_all _, (hd_t (hd_u (r := 0) W9 hLx hkx (hd_u W9 hLx hkx (hd_u W9 hLx hkx (hd_u W9 hLx hkx (hd_u W9 hLx hkx hd_18 hI_20 (Or.inr (Or.inl ⟨(ro_a hb_3k (by decide) hb_3o hkx rfl), by decide⟩))) hI_23 (Or.inr (Or.inl ⟨(ro_a hb_3k (by decide) hb_3o hkx rfl), by decide⟩))) hI_27 (Or.inr (Or.inl ⟨(ro_a hb_3k (by decide) hb_3o hkx rfl), by decide⟩))) hI_31 (Or.inr (Or.inl ⟨(ro_a hb_3k (by decide) hb_3o hkx rfl), by decide⟩))) hI_34 (Or.inl (ro_o hkx (by decide)))) ex_55), (Or.inl ⟨Or.inr (rg_1k r_52 rc_1), q_64⟩)⟩ dX12_book_175
        · skip
          have r_65 := (⟨(rv_12).1, (eq_rg (h_61) rc_0).2⟩ : Rg 0 0 v_12)
          refine g_iconst C (v := (-1)) dX12_book_170 (by decide) ?_
          refine g_goto C (tgt := 175) dX12_book_171 (by decide) ?_
          have q_66 := (fq_at hFI_56 hLx hkx (by decide) (by decide) (kp_j hI_34 (by decide) (kp_k (κ := κ) hI_31 (by rw [hkx, hb_3k]; decide) (kp_k (κ := κ) hI_27 (by rw [hkx, hb_3k]; decide) (kp_k (κ := κ) hI_23 (by rw [hkx, hb_3k]; decide) (kp_k (κ := κ) hI_20 (by rw [hkx, hb_3k]; decide) q_15))))))
          exact g_zret (ty := .int) (r := (-1)) B K rfl (rfl) ⟨hUI_56, hF_59, hG_60, rg_all _, (hd_t (hd_u (r := 0) W9 hLx hkx (hd_u W9 hLx hkx (hd_u W9 hLx hkx (hd_u W9 hLx hkx (hd_u W9 hLx hkx hd_18 hI_20 (Or.inr (Or.inl ⟨(ro_a hb_3k (by decide) hb_3o hkx rfl), by decide⟩))) hI_23 (Or.inr (Or.inl ⟨(ro_a hb_3k (by decide) hb_3o hkx rfl), by decide⟩))) hI_27 (Or.inr (Or.inl ⟨(ro_a hb_3k (by decide) hb_3o hkx rfl), by decide⟩))) hI_31 (Or.inr (Or.inl ⟨(ro_a hb_3k (by decide) hb_3o hkx rfl), by decide⟩))) hI_34 (Or.inl (ro_o hkx (by decide)))) ex_55), (Or.inl ⟨Or.inr (rg_1k r_52 rc_1), q_66⟩)⟩ dX12_book_175
      · skip
        have r_67 := lt_r (lo := 1) (nle h_53) rc_0 rv_11 (by decide)
        refine g_iconst C (v := 1) dX12_book_158 (by decide) ?_
        refine g_goto C (tgt := 163) dX12_book_159 (by decide) ?_
        refine g_callVV C K (c_X12_stay W9 hLx hkx 1 (rg_w rc_1 (by decide) (by decide)) hU_35  ((ga_u (r := 0) W9 hLx hkx (ga_u W9 hLx hkx (ga_u W9 hLx hkx (ga_u W9 hLx hkx (ga_u W9 hLx hkx ga_19 hI_20 (Or.inr (Or.inl ⟨(ro_a hb_3k (by decide) hb_3o hkx rfl), by decide, by decide⟩))) hI_23 (Or.inr (Or.inl ⟨(ro_a hb_3k (by decide) hb_3o hkx rfl), by decide, by decide⟩))) hI_27 (Or.inr (Or.inl ⟨(ro_a hb_3k (by decide) hb_3o hkx rfl), by decide, by decide⟩))) hI_31 (Or.inr (Or.inl ⟨(ro_a hb_3k (by decide) hb_3o hkx rfl), by decide, by decide⟩))) hI_34 (Or.inl (ro_o hkx (by decide)))))) hLx hkx (by decide) rfl v_12_376 rfl ⟨rfl, rfl⟩ ⟨Nat.le_of_ble_eq_true rfl, Nat.le_of_ble_eq_true rfl⟩ (Nat.le_of_ble_eq_true rfl) ⟨Nat.le_of_ble_eq_true rfl, Nat.le_of_ble_eq_true rfl⟩ dX12_book_163 rfl (st := []) (fun I_69 J_70 h_71 => ?_)
        obtain ⟨hUI_69, hFI_69, hGJ_70, ex_68⟩ := h_71
        have hF_72 := fq_tr hF_36 hFI_69 (by decide)
        have hG_73 := fq_tr hG_9 hGJ_70 (by decide)
        refine g_iload_n C 3 dX12_book_166 rfl rfl ?_
        refine g_if_ne C (tgt := 174) dX12_book_167 (by decide) (fun h_74 => ?_) (fun h_74 => ?_)
        · skip
          have n_75 : ¬ v_12 = 0 := h_74
          have r_76 := ne_lo (lo := 1) n_75 rv_12 rc_0 rfl (by decide)
          refine g_iload_n C 2 dX12_book_174 rfl rfl ?_
          have q_77 := (fq_at hFI_69 hLx hkx (by decide) (by decide) (kp_j hI_34 (by decide) (kp_k (κ := κ) hI_31 (by rw [hkx, hb_3k]; decide) (kp_k (κ := κ) hI_27 (by rw [hkx, hb_3k]; decide) (kp_k (κ := κ) hI_23 (by rw [hkx, hb_3k]; decide) (kp_k (κ := κ) hI_20 (by rw [hkx, hb_3k]; decide) q_15))))))
          exact g_zret (ty := .int) (r := v_11) B K rfl (rfl) ⟨hUI_69, hF_72, hG_73, rg_all _, (hd_t (hd_u (r := 0) W9 hLx hkx (hd_u W9 hLx hkx (hd_u W9 hLx hkx (hd_u W9 hLx hkx (hd_u W9 hLx hkx hd_18 hI_20 (Or.inr (Or.inl ⟨(ro_a hb_3k (by decide) hb_3o hkx rfl), by decide⟩))) hI_23 (Or.inr (Or.inl ⟨(ro_a hb_3k (by decide) hb_3o hkx rfl), by decide⟩))) hI_27 (Or.inr (Or.inl ⟨(ro_a hb_3k (by decide) hb_3o hkx rfl), by decide⟩))) hI_31 (Or.inr (Or.inl ⟨(ro_a hb_3k (by decide) hb_3o hkx rfl), by decide⟩))) hI_34 (Or.inl (ro_o hkx (by decide)))) ex_68), (Or.inl ⟨Or.inr (rg_1k r_52 rc_1), q_77⟩)⟩ dX12_book_175
        · skip
          have r_78 := (⟨(rv_12).1, (eq_rg (h_74) rc_0).2⟩ : Rg 0 0 v_12)
          refine g_iconst C (v := (-1)) dX12_book_170 (by decide) ?_
          refine g_goto C (tgt := 175) dX12_book_171 (by decide) ?_
          have q_79 := (fq_at hFI_69 hLx hkx (by decide) (by decide) (kp_j hI_34 (by decide) (kp_k (κ := κ) hI_31 (by rw [hkx, hb_3k]; decide) (kp_k (κ := κ) hI_27 (by rw [hkx, hb_3k]; decide) (kp_k (κ := κ) hI_23 (by rw [hkx, hb_3k]; decide) (kp_k (κ := κ) hI_20 (by rw [hkx, hb_3k]; decide) q_15))))))
          exact g_zret (ty := .int) (r := (-1)) B K rfl (rfl) ⟨hUI_69, hF_72, hG_73, rg_all _, (hd_t (hd_u (r := 0) W9 hLx hkx (hd_u W9 hLx hkx (hd_u W9 hLx hkx (hd_u W9 hLx hkx (hd_u W9 hLx hkx hd_18 hI_20 (Or.inr (Or.inl ⟨(ro_a hb_3k (by decide) hb_3o hkx rfl), by decide⟩))) hI_23 (Or.inr (Or.inl ⟨(ro_a hb_3k (by decide) hb_3o hkx rfl), by decide⟩))) hI_27 (Or.inr (Or.inl ⟨(ro_a hb_3k (by decide) hb_3o hkx rfl), by decide⟩))) hI_31 (Or.inr (Or.inl ⟨(ro_a hb_3k (by decide) hb_3o hkx rfl), by decide⟩))) hI_34 (Or.inl (ro_o hkx (by decide)))) ex_68), (Or.inl ⟨Or.inr (rg_1k r_52 rc_1), q_79⟩)⟩ dX12_book_175
  have l_73 : ∀ (n_73 : Nat) (I_80 : Nat → Nat → Int32) (J_81 : Nat → Nat → Int64) (hU_82 : Iw L κ R ow I_80) (hF_83 : Fq L κ ow [1200, 1202, 1203, 1204, 1205, 1206, 1207, 1208, 1209, 1210, 1211, 1213, 1223, 1244, 1245, 83400, 83700, 83800, 86200, 86300] I I_80) (hG_84 : Fq L κ ow [1212] J J_81) (r_85 : Rg 0 1 a0) (v_86 : Int32) (rv_86 : Rg 0 40 v_86) (v_87 : Int32) (rv_87 : Rg 0 0 v_87) (v_88 : Int32) (rv_88 : Rg 0 40 v_88) (v_89 : Int32) (rv_89 : Rg 0 0 v_89) (q_90 : I_80 x 2 = 0) (q_91 : I_80 x 44 = v_88) (q_92 : I_80 x 7 = v_89) (hd_93 : Hd_ R x I I_80) (ga_94 : Ga_ R x I_80) (hm_95 : 40 < (v_86 : Int32).toInt + (n_73 : Int)), WG p l e { frames := 6, cells := 0, slots := 0, locals := 143 } s m ([.ref x, .int a0] : List Value).toArray below meth c 4 0 0 (MQ below (Qi_ D cy L κ ln R (fun r I2 J2 => Iw L κ R ow I2 ∧ Fq L κ ow [1200, 1202, 1203, 1204, 1205, 1206, 1207, 1208, 1209, 1210, 1211, 1213, 1223, 1244, 1245, 83400, 83700, 83800, 86200, 86300] I I2 ∧ Fq L κ ow [1212] J J2 ∧ Rg (-2147483648) 2147483647 r ∧ (Hd_ R x I I2) ∧ (Tb_ (I x 2) (I2 x 2) a0))) ([.ref x, .int a0] : List Value).toArray s 0 0 (Al_ L)) D cy (Al_ L) s.heap L κ ln R I_80 J_81 73 [(0, .ref x), (1, .int a0), (2, .int v_86), (3, .int v_87)] [] := by
    intro n_73
    induction n_73 with
    | zero =>
      intro I_80 J_81 hU_82 hF_83 hG_84 r_85 v_86 rv_86 v_87 rv_87 v_88 rv_88 v_89 rv_89 q_90 q_91 q_92 hd_93 ga_94 hm_95
      exact ms_0 rv_86 hm_95
    | succ n_73 ih_73 =>
      intro I_80 J_81 hU_82 hF_83 hG_84 r_85 v_86 rv_86 v_87 rv_87 v_88 rv_88 v_89 rv_89 q_90 q_91 q_92 hd_93 ga_94 hm_95
      refine g_iload_n C 2 dX12_book_73 rfl rfl ?_
      refine g_aload_n C 0 dX12_book_74 rfl rfl ?_
      refine g_getI C K hLx hkx f_12_361 (v := v_88) q_91 dX12_book_75 ?_
      refine g_icmp_ge C (tgt := 103) dX12_book_78 (by decide) (fun h_96 => ?_) (fun h_96 => ?_)
      · skip
        refine g_lo (is := [0, 1, 2, 3]) (lo2 := [(0, .ref x), (1, .int a0), (2, .int v_86), (3, .int v_87)]) rfl ?_
        exact j_103 I_80 J_81 hU_82 hF_83 hG_84 (r_85) v_86 (rv_86) v_87 (rg_w rv_87 (by decide) (by decide)) v_88 (rv_88) v_89 (rv_89) q_90 q_91 q_92 hd_93 ga_94
      · skip
        have r_97 := lt_l (hi := 39) (nle h_96) rv_86 rv_88 (by decide)
        have r_98 := lt_r (lo := 1) (nle h_96) rv_86 rv_88 (by decide)
        refine g_iload_n C 3 dX12_book_81 rfl rfl ?_
        refine g_if_ne C (tgt := 103) dX12_book_82 (by decide) (fun h_99 => ?_) (fun h_99 => ?_)
        · skip
          exact ne_no (h_99) rv_87 rc_0
        · skip
          refine g_aload_n C 0 dX12_book_85 rfl rfl ?_
          refine g_iconst C (v := 4) dX12_book_86 (by decide) ?_
          refine g_iload_n C 2 dX12_book_87 rfl rfl ?_
          obtain ⟨x_100, hx_100, rx_100, tx_100⟩ := ex_mulT 0 156 rc_4 r_97 (by decide) (by decide) (by decide) (by decide) (by decide)
          refine g_imul C (v := x_100) dX12_book_88 hx_100 ?_
          refine g_callVI C K (c_X12_goBy W9 hLx hkx x_100 (rx_100) hU_82  ((md_m tx_100)) (fun rw hr => by rw [nx_m (k := 4) tx_100 r_97 (by decide)]; exact gm_ln W9 hU_82.2 hLx hkx hr (by rw [ix_n r_97 (by decide), q_91]; exact Int32.lt_iff_toInt_lt.mp (nle h_96)))) hLx hkx (by decide) rfl v_12_370 rfl ⟨rfl, rfl⟩ ⟨Nat.le_of_ble_eq_true rfl, Nat.le_of_ble_eq_true rfl⟩ (Nat.le_of_ble_eq_true rfl) ⟨Nat.le_of_ble_eq_true rfl, Nat.le_of_ble_eq_true rfl⟩ dX12_book_89 rfl (st := []) (fun x_101 I_102 J_103 h_104 => ?_)
          obtain ⟨hUI_102, hFI_102, hGJ_103, rx_101, ex_101⟩ := h_104
          have hF_105 := fq_tr hF_83 hFI_102 (by decide)
          have hG_106 := fq_tr hG_84 hGJ_103 (by decide)
          refine g_istore_n C dX12_book_92 rfl (by decide) (lo2 := [(3, .int x_101), (0, .ref x), (1, .int a0), (2, .int v_86)]) rfl ?_
          refine g_iload_n C 0 dX12_book_93 rfl rfl ?_
          refine g_if_ne C (tgt := 73) dX12_book_94 (by decide) (fun h_107 => ?_) (fun h_107 => ?_)
          · skip
            have n_108 : ¬ x_101 = 0 := h_107
            have r_109 := ne_lo (lo := 1) n_108 rx_101 rc_0 rfl (by decide)
            refine g_iload_n C 3 dX12_book_73 rfl rfl ?_
            refine g_aload_n C 1 dX12_book_74 rfl rfl ?_
            refine g_getI C K hLx hkx f_12_361 (v := v_88) (fq_at hFI_102 hLx hkx (by decide) (by decide) q_91) dX12_book_75 ?_
            refine g_icmp_ge C (tgt := 103) dX12_book_78 (by decide) (fun h_110 => ?_) (fun h_110 => ?_)
            · skip
              have r_111 := le_l (h_110) r_98 r_97
              have r_112 := le_r (h_110) r_98 r_97
              refine g_lo (is := [1, 2, 3, 0]) (lo2 := [(0, .ref x), (1, .int a0), (2, .int v_86), (3, .int x_101)]) rfl ?_
              exact j_103 I_102 J_103 hUI_102 hF_105 hG_106 (r_85) v_86 (rg_w r_112 (by decide) (by decide)) x_101 (rg_w r_109 (by decide) (by decide)) v_88 (rg_w r_111 (by decide) (by decide)) v_89 (rv_89) (fq_at hFI_102 hLx hkx (by decide) (by decide) q_90) (fq_at hFI_102 hLx hkx (by decide) (by decide) q_91) (fq_at hFI_102 hLx hkx (by decide) (by decide) q_92) (hd_t hd_93 ex_101) (ga_mv W9 hLx hkx ga_94 ex_101 hFI_102 (by decide))
            · skip
              refine g_iload_n C 0 dX12_book_81 rfl rfl ?_
              refine g_if_ne C (tgt := 103) dX12_book_82 (by decide) (fun h_113 => ?_) (fun h_113 => ?_)
              · skip
                have n_114 : ¬ x_101 = 0 := h_113
                refine g_lo (is := [1, 2, 3, 0]) (lo2 := [(0, .ref x), (1, .int a0), (2, .int v_86), (3, .int x_101)]) rfl ?_
                exact j_103 I_102 J_103 hUI_102 hF_105 hG_106 (r_85) v_86 (rg_w r_97 (by decide) (by decide)) x_101 (rg_w r_109 (by decide) (by decide)) v_88 (rg_w r_98 (by decide) (by decide)) v_89 (rv_89) (fq_at hFI_102 hLx hkx (by decide) (by decide) q_90) (fq_at hFI_102 hLx hkx (by decide) (by decide) q_91) (fq_at hFI_102 hLx hkx (by decide) (by decide) q_92) (hd_t hd_93 ex_101) (ga_mv W9 hLx hkx ga_94 ex_101 hFI_102 (by decide))
              · skip
                exact eq_no (h_113) r_109 rc_0 (by decide)
          · skip
            have r_115 := (⟨(rx_101).1, (eq_rg (h_107) rc_0).2⟩ : Rg 0 0 x_101)
            obtain ⟨x_116, hx_116, rx_116, tx_116⟩ := ex_add (y := 1) 1 40 r_97 rc_1 (by decide) (by decide) (by decide) (by decide)
            refine g_iinc C dX12_book_97 (k := 3) (v := x_116) rfl hx_116 (by decide) (lo2 := [(2, .int x_116), (3, .int x_101), (0, .ref x), (1, .int a0)]) rfl ?_
            refine g_goto C (tgt := 73) dX12_book_100 (by decide) ?_
            refine g_lo (is := [2, 3, 0, 1]) (lo2 := [(0, .ref x), (1, .int a0), (2, .int x_116), (3, .int x_101)]) rfl ?_
            exact ih_73 I_102 J_103 hUI_102 hF_105 hG_106 (r_85) x_116 (rg_w rx_116 (by decide) (by decide)) x_101 (r_115) v_88 (rg_w r_98 (by decide) (by decide)) v_89 (rv_89) (fq_at hFI_102 hLx hkx (by decide) (by decide) q_90) (fq_at hFI_102 hLx hkx (by decide) (by decide) q_91) (fq_at hFI_102 hLx hkx (by decide) (by decide) q_92) (hd_t hd_93 ex_101) (ga_mv W9 hLx hkx ga_94 ex_101 hFI_102 (by decide)) (ms_1 hm_95 (ti_k tx_116 rc_1) (by decide))
  have l_30 : ∀ (n_30 : Nat) (I_117 : Nat → Nat → Int32) (J_118 : Nat → Nat → Int64) (hU_119 : Iw L κ R ow I_117) (hF_120 : Fq L κ ow [1200, 1202, 1203, 1204, 1205, 1206, 1207, 1208, 1209, 1210, 1211, 1213, 1223, 1244, 1245, 83400, 83700, 83800, 86200, 86300] I I_117) (hG_121 : Fq L κ ow [1212] J J_118) (r_122 : Rg 0 1 a0) (v_123 : Int32) (rv_123 : Rg 0 40 v_123) (q_124 : I_117 x 2 = 0) (q_125 : I_117 x 44 = v_123) (hd_126 : Hd_ R x I I_117) (hm_127 : 40 < (v_123 : Int32).toInt + (n_30 : Int)), WG p l e { frames := 6, cells := 0, slots := 0, locals := 143 } s m ([.ref x, .int a0] : List Value).toArray below meth c 4 0 0 (MQ below (Qi_ D cy L κ ln R (fun r I2 J2 => Iw L κ R ow I2 ∧ Fq L κ ow [1200, 1202, 1203, 1204, 1205, 1206, 1207, 1208, 1209, 1210, 1211, 1213, 1223, 1244, 1245, 83400, 83700, 83800, 86200, 86300] I I2 ∧ Fq L κ ow [1212] J J2 ∧ Rg (-2147483648) 2147483647 r ∧ (Hd_ R x I I2) ∧ (Tb_ (I x 2) (I2 x 2) a0))) ([.ref x, .int a0] : List Value).toArray s 0 0 (Al_ L)) D cy (Al_ L) s.heap L κ ln R I_117 J_118 30 [(0, .ref x), (1, .int a0)] [] := by
    intro n_30
    induction n_30 with
    | zero =>
      intro I_117 J_118 hU_119 hF_120 hG_121 r_122 v_123 rv_123 q_124 q_125 hd_126 hm_127
      exact ms_0 rv_123 hm_127
    | succ n_30 ih_30 =>
      intro I_117 J_118 hU_119 hF_120 hG_121 r_122 v_123 rv_123 q_124 q_125 hd_126 hm_127
      refine g_aload_n C 0 dX12_book_30 rfl rfl ?_
      obtain ⟨x_128, hx_128, rx_128⟩ := ex_getw (I := I_117) (a := x) (j := 7) (lo := 0) (hi := 4) hU_119.1 hLx (ro_o hkx (by decide)) rfl
      refine g_getI C K hLx hkx f_12_104 (v := x_128) hx_128 dX12_book_31 ?_
      refine g_if_eq C (tgt := 65) dX12_book_34 (by decide) (fun h_129 => ?_) (fun h_129 => ?_)
      · skip
        have r_130 := (⟨(rx_128).1, (eq_rg (h_129) rc_0).2⟩ : Rg 0 0 x_128)
        refine g_aload_n C 0 dX12_book_65 rfl rfl ?_
        refine g_callVV C K (c_X12_layAside W9 hLx hkx   hU_119) hLx hkx (by decide) rfl v_12_329 rfl ⟨rfl, rfl⟩ ⟨Nat.le_of_ble_eq_true rfl, Nat.le_of_ble_eq_true rfl⟩ (Nat.le_of_ble_eq_true rfl) ⟨Nat.le_of_ble_eq_true rfl, Nat.le_of_ble_eq_true rfl⟩ dX12_book_66 rfl (st := []) (fun I_132 J_133 h_134 => ?_)
        obtain ⟨hUI_132, hFI_132, hGJ_133, ex_131⟩ := h_134
        have hF_135 := fq_tr hF_120 hFI_132 (by decide)
        have hG_136 := fq_tr hG_121 hGJ_133 (by decide)
        refine g_iconst C (v := 0) dX12_book_69 (by decide) ?_
        refine g_istore_n C dX12_book_70 rfl (by decide) (lo2 := [(2, .int 0), (0, .ref x), (1, .int a0)]) rfl ?_
        refine g_iconst C (v := 0) dX12_book_71 (by decide) ?_
        refine g_istore_n C dX12_book_72 rfl (by decide) (lo2 := [(3, .int 0), (2, .int 0), (0, .ref x), (1, .int a0)]) rfl ?_
        refine g_lo (is := [2, 3, 1, 0]) (lo2 := [(0, .ref x), (1, .int a0), (2, .int 0), (3, .int 0)]) rfl ?_
        exact l_73 41 I_132 J_133 hUI_132 hF_135 hG_136 (r_122) 0 (rg_w rc_0 (by decide) (by decide)) 0 (rc_0) v_123 (rv_123) x_128 (r_130) (fq_at hFI_132 hLx hkx (by decide) (by decide) q_124) (fq_at hFI_132 hLx hkx (by decide) (by decide) q_125) (fq_at hFI_132 hLx hkx (by decide) (by decide) hx_128) (hd_t hd_126 ex_131.1) ex_131.2 (ms_s (a := 0) (b := 40) (N := 41) (rg_w rc_0 (by decide) (by decide)) (by decide))
      · skip
        have n_137 : ¬ x_128 = 0 := h_129
        have r_138 := ne_lo (lo := 1) n_137 rx_128 rc_0 rfl (by decide)
        refine g_aload_n C 0 dX12_book_37 rfl rfl ?_
        refine g_callVI C K (c_X12_readBookLine W9 hLx hkx   hU_119) hLx hkx (by decide) rfl v_12_367 rfl ⟨rfl, rfl⟩ ⟨Nat.le_of_ble_eq_true rfl, Nat.le_of_ble_eq_true rfl⟩ (Nat.le_of_ble_eq_true rfl) ⟨Nat.le_of_ble_eq_true rfl, Nat.le_of_ble_eq_true rfl⟩ dX12_book_38 rfl (st := []) (fun x_139 I_140 J_141 h_142 => ?_)
        obtain ⟨hUI_140, hFI_140, hGJ_141, rx_139, ex_139⟩ := h_142
        have hF_143 := fq_tr hF_120 hFI_140 (by decide)
        have hG_144 := fq_tr hG_121 hGJ_141 (by decide)
        have q_145 := (fq_at hFI_140 hLx hkx (by decide) (by decide) q_125)
        refine g_if_ne C (tgt := 52) dX12_book_41 (by decide) (fun h_146 => ?_) (fun h_146 => ?_)
        · skip
          have n_147 : ¬ x_139 = 0 := h_146
          have r_148 := ne_lo (lo := 1) n_147 rx_139 rc_0 rfl (by decide)
          have r_149 := rg_i rv_123 (eq_rg q_145.symm ((ex_139.2) n_147)) (lo := 0) (hi := 39) (by decide) (by decide)
          refine g_aload_n C 0 dX12_book_52 rfl rfl ?_
          refine g_dup C dX12_book_53 rfl ?_
          refine g_getI C K hLx hkx f_12_361 (v := v_123) (fq_at hFI_140 hLx hkx (by decide) (by decide) q_125) dX12_book_54 ?_
          refine g_iconst C (v := 1) dX12_book_57 (by decide) ?_
          obtain ⟨x_150, hx_150, rx_150, tx_150⟩ := ex_add 1 40 r_149 rc_1 (by decide) (by decide) (by decide) (by decide)
          refine g_iadd C (v := x_150) dX12_book_58 hx_150 ?_
          refine h_putI C K hLx hkx f_12_361 p_12_44 dX12_book_59 (fun I_151 hI_151 => ?_)
          have hU_152 := iw_ln W9 hUI_140 (uw_put hUI_140.1 hI_151 (ro_o hkx (by decide)) (lo := 0) (hi := 40) (rfl) (rg_w rx_150 (by decide) (by decide))) hLx hkx hb_4 hI_151 (fun j hj => by by_cases q : (j : Int) < (I_140 x 44).toInt; exact Or.inl q; refine Or.inr ?_; have q0 := ex_139.1 (rg_nz r_148 (by decide)) _ hb_4; have q1 := (ti_k tx_150 rc_1); have q2 := (fq_at hFI_140 hLx hkx (by decide) (by decide) q_125); rw [q2] at q q0; have q3 := ix_n (r_149) (by decide); rw [show j = v_123.toNatClampNeg from by omega]; exact q0)
          have hF_153 := fq_puto hF_143 hI_151 hkx (by decide) (by decide)
          refine g_goto C (tgt := 30) dX12_book_62 (by decide) ?_
          refine g_lo (is := [0, 1]) (lo2 := [(0, .ref x), (1, .int a0)]) rfl ?_
          exact ih_30 I_151 J_141 hU_152 hF_153 hG_144 (r_122) x_150 (rg_w rx_150 (by decide) (by decide)) (kp_j hI_151 (by decide) (fq_at hFI_140 hLx hkx (by decide) (by decide) q_124)) (kp_s hI_151) (hd_u (r := 0) W9 hLx hkx (hd_fq W9 hLx hkx hd_126 hFI_140 (by decide)) hI_151 (Or.inl (ro_o hkx (by decide)))) (ms_1 hm_127 (ti_k tx_150 rc_1) (by decide))
        · skip
          have r_154 := (⟨(rx_139).1, (eq_rg (h_146) rc_0).2⟩ : Rg 0 0 x_139)
          refine g_bipush C (v := (-2)) dX12_book_44 (by decide) ?_
          refine g_aload_n C 0 dX12_book_46 rfl rfl ?_
          obtain ⟨x_155, hx_155, rx_155⟩ := ex_getw (I := I_140) (a := x) (j := 11) (lo := (-2147483648)) (hi := 2147483647) hUI_140.1 hLx (ro_o hkx (by decide)) rfl
          refine g_getI C K hLx hkx f_12_143 (v := x_155) hx_155 dX12_book_47 ?_
          obtain ⟨x_156, hx_156, rx_156⟩ := ex_any (z0 := (-2) - x_155)
          refine g_isub C (v := x_156) dX12_book_50 hx_156 ?_
          exact g_zret (ty := .int) (r := x_156) B K rfl (rfl) ⟨hUI_140, hF_143, hG_144, rx_156, (hd_fq W9 hLx hkx hd_126 hFI_140 (by decide)), (Or.inl ⟨rg_01 r_122, (fq_at hFI_140 hLx hkx (by decide) (by decide) q_124)⟩)⟩ dX12_book_51
  refine g_aload_n C 0 dX12_book_0 rfl rfl ?_
  refine g_iconst C (v := 0) dX12_book_1 (by decide) ?_
  refine h_putI C K hLx hkx f_12_82 p_12_0 dX12_book_2 (fun I_157 hI_157 => ?_)
  have hU_158 := iw_put W9 hU hI_157 (ro_o hkx (by decide)) (lo := (-2147483648)) (hi := 2147483647) (rfl) (rg_all _) rfl
  have hF_159 := fq_puto hF hI_157 hkx (by decide) (by decide)
  refine g_iload_n C 1 dX12_book_5 rfl rfl ?_
  refine g_iconst C (v := 0) dX12_book_6 (by decide) ?_
  refine g_iconst C (v := 1) dX12_book_7 (by decide) ?_
  refine g_callSI C K (c_X12_isIn_e W9 a0 0 1  hU_158) s_12_149 rfl ⟨rfl, rfl⟩ ⟨Nat.le_of_ble_eq_true rfl, Nat.le_of_ble_eq_true rfl⟩ (Nat.le_of_ble_eq_true rfl) ⟨Nat.le_of_ble_eq_true rfl, Nat.le_of_ble_eq_true rfl⟩ dX12_book_8 rfl (st := []) (fun x_160 I_161 J_162 h_163 => ?_)
  obtain ⟨rfl, rfl, rx_160, fx_160, ex_160⟩ := h_163
  refine g_if_ne C (tgt := 18) dX12_book_11 (by decide) (fun h_164 => ?_) (fun h_164 => ?_)
  · skip
    have n_165 : ¬ x_160 = 0 := h_164
    have r_166 := ne_lo (lo := 1) n_165 rx_160 rc_0 rfl (by decide)
    have r_167 := le_r (((ex_160.2.1) n_165)) rc_0 (rg_all a0)
    have r_168 := le_l (((ex_160.2.2) n_165)) r_167 rc_1
    refine g_aload_n C 0 dX12_book_18 rfl rfl ?_
    refine g_sipush C (v := 400) dX12_book_19 (by decide) ?_
    refine g_callVV C K (c_X12_begin_e W9 hLx hkx 400 (rg_w rc_400 (by decide) (by decide)) hU_158) hLx hkx (by decide) rfl v_12_216 rfl ⟨rfl, rfl⟩ ⟨Nat.le_of_ble_eq_true rfl, Nat.le_of_ble_eq_true rfl⟩ (Nat.le_of_ble_eq_true rfl) ⟨Nat.le_of_ble_eq_true rfl, Nat.le_of_ble_eq_true rfl⟩ dX12_book_22 rfl (st := []) (fun I_170 J_171 h_172 => ?_)
    obtain ⟨hUI_170, hFI_170, hGJ_171, fx_169, ex_169⟩ := h_172
    have hF_173 := fq_tr hF_159 hFI_170 (by decide)
    have hG_174 := fq_tr hG hGJ_171 (by decide)
    refine g_aload_n C 0 dX12_book_25 rfl rfl ?_
    refine g_iconst C (v := 0) dX12_book_26 (by decide) ?_
    refine h_putI C K hLx hkx f_12_361 p_12_44 dX12_book_27 (fun I_175 hI_175 => ?_)
    have hU_176 := iw_ln W9 hUI_170 (uw_put hUI_170.1 hI_175 (ro_o hkx (by decide)) (lo := 0) (hi := 40) (rfl) (rg_w rc_0 (by decide) (by decide))) hLx hkx hb_4 hI_175 (fun j hj => by rw [show (0 : Int32).toInt = 0 from by decide] at hj; omega)
    have hF_177 := fq_puto hF_173 hI_175 hkx (by decide) (by decide)
    refine g_lo (is := [0, 1]) (lo2 := [(0, .ref x), (1, .int a0)]) rfl ?_
    exact l_30 41 I_175 J_171 hU_176 hF_177 hG_174 (r_168) 0 (rg_w rc_0 (by decide) (by decide)) (kp_j hI_175 (by decide) ex_169) (kp_s hI_175) (hd_u (r := 0) W9 hLx hkx (hd_fq W9 hLx hkx (hd_u (r := 0) W9 hLx hkx hd_rf hI_157 (Or.inl (ro_o hkx (by decide)))) hFI_170 (by decide)) hI_175 (Or.inl (ro_o hkx (by decide)))) (ms_s (a := 0) (b := 40) (N := 41) (rg_w rc_0 (by decide) (by decide)) (by decide))
  · skip
    have r_178 := (⟨(rx_160).1, (eq_rg (h_164) rc_0).2⟩ : Rg 0 0 x_160)
    refine g_sipush C (v := (-1000)) dX12_book_14 (by decide) ?_
    exact g_zret (ty := .int) (r := (-1000)) B K rfl (rfl) ⟨hU_158, hF_159, hG, rg_all _, (hd_u (r := 0) W9 hLx hkx hd_rf hI_157 (Or.inl (ro_o hkx (by decide)))), (Or.inr ⟨(fun e => absurd (ex_160.1 (rg_1k r_178 rc_0)) (by rw [e]; decide)), (fun e => absurd (ex_160.1 (rg_1k r_178 rc_0)) (by rw [e]; decide)), (kp_j hI_157 (by decide) hx_1).trans hx_1.symm⟩)⟩ dX12_book_17
