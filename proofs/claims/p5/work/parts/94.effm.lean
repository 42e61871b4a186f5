set_option maxRecDepth 100000 in
set_option maxHeartbeats 8000000 in
theorem c_X12_feed_e {l : Launch} {D : va_G} {cy : Nat → ClassId} {L : List Nat} {κ ln : Nat → Nat} {R : Nat → Nat → Option Nat} {I : Nat → Nat → Int32} {J : Nat → Nat → Int64} {ow : Nat → Nat × Nat} (W9 : ∀ a ∈ L, Shp L κ ln R ow a) {x : Nat} (hLx : x ∈ L) (hkx : κ x = 12) (a0 : Int32) (a1 : Int32) (a2 : Int32) (a3 : Int32) (a4 : Int32) (hU : Iw L κ R ow I) : CtI l yX12_feed cX12_feed 6 (some .int) { frames := 1, cells := 0, slots := 0, locals := 22 } D cy L κ ln R I J [.ref x, .int a0, .int a1, .int a2, .int a3, .int a4] (fun r I2 J2 => Iw L κ R ow I2 ∧ Fq L κ ow [1200, 1202, 82100] I I2 ∧ Fq L κ ow [] J J2 ∧ Rg (-1) 940 r ∧ ((r, MTf R I2 J2 x, NRf R I2 J2 x) = mFeed a0 a1 a2 a3 a4 (MTf R I J x) (NRf R I J x)) ∧ (Tf_ (I x 2) (I2 x 2) r)) := by
  obtain ⟨x_1, hx_1, rx_1⟩ := ex_getw (I := I) (a := x) (j := 2) (lo := 0) (hi := 940) hU.1 hLx (ro_o hkx (by decide)) rfl
  refine CtI.of (by decide +kernel) (Nat.le_of_ble_eq_true rfl) ?_
  intro p e s m below meth c B K
  have C := B.1
  have hF : Fq L κ ow [1200, 1202, 82100] I I := fq_rf
  have hG : Fq L κ ow [] J J := fq_rf
  obtain ⟨b_2, hb_2, hb_2L, hb_2k, hb_2n, hb_2o⟩ := shp_a (W9 x hLx) hkx 1 14 940 rfl (by decide)
  have emqx : ∀ I J, MTf R I J x = MTq I J x b_2 := fun I J => by simp only [MTf, rr_, Option.getD_some, hb_2]
  have wmqx : mqw_ L κ ow x b_2 := ⟨⟨hLx, hb_2L⟩, ⟨(ro_o hkx (by decide)), (ro_a hb_2k (by decide) hb_2o hkx rfl)⟩⟩
  obtain ⟨s_3, hs_3⟩ : ∃ z, MTq I J x b_2 = z := ⟨_, rfl⟩
  obtain ⟨b_4, hb_4, hb_4L, hb_4k, hb_4n, hb_4o⟩ := shp_a (W9 x hLx) hkx 15 14 72 rfl (by decide)
  obtain ⟨b_5, hb_5, hb_5L, hb_5k, hb_5n, hb_5o⟩ := shp_a (W9 x hLx) hkx 20 15 13 rfl (by decide)
  have enqx : ∀ I J, NRf R I J x = NRq I J x b_4 b_5 := fun I J => by simp only [NRf, rr_, Option.getD_some, hb_4, hb_5]
  have wnqx : nqw_ L κ ow x b_4 b_5 := ⟨⟨hLx, hb_4L, hb_5L⟩, ⟨(ro_o hkx (by decide)), (ro_a hb_4k (by decide) hb_4o hkx rfl), (ro_a hb_5k (by decide) hb_5o hkx rfl)⟩⟩
  obtain ⟨s_6, hs_6⟩ : ∃ z, NRq I J x b_4 b_5 = z := ⟨_, rfl⟩
  refine g_lo (is := [0, 1, 2, 3, 4, 5]) (lo2 := [(0, .ref x), (1, .int a0), (2, .int a1), (3, .int a2), (4, .int a3), (5, .int a4)]) rfl ?_
  refine g_aload_n C 0 dX12_feed_0 rfl rfl ?_
  refine g_iconst C (v := 0) dX12_feed_1 (by decide) ?_
  refine h_putI C K hLx hkx f_12_82 p_12_0 dX12_feed_2 (fun I_7 hI_7 => ?_)
  have hU_8 := iw_put W9 hU hI_7 (ro_o hkx (by decide)) (lo := (-2147483648)) (hi := 2147483647) (rfl) (rg_all _) rfl
  have hF_9 := fq_puto hF hI_7 hkx (by decide) (by decide)
  have hs_10 : MTq I_7 J x b_2 = s_3 := by rw [hI_7]; exact (mq_uIt wmqx (by decide)).trans hs_3
  have hs_11 : NRq I_7 J x b_4 b_5 = s_6 := by rw [hI_7]; exact (nq_uIt wnqx (by decide)).trans hs_6
  refine g_aload_n C 0 dX12_feed_5 rfl rfl ?_
  have f_12 : s_6.taped = x_1 := (congrArg NR_.taped hs_11).symm.trans (kp_j hI_7 (by decide) hx_1)
  refine g_getI C K hLx hkx f_12_85 (v := x_1) (kp_j hI_7 (by decide) hx_1) dX12_feed_6 ?_
  refine g_bipush C (v := 20) dX12_feed_9 (by decide) ?_
  obtain ⟨x_13, hx_13, rx_13, tx_13⟩ := ex_add 20 960 rx_1 rc_20 (by decide) (by decide) (by decide) (by decide)
  refine g_iadd C (v := x_13) dX12_feed_11 hx_13 ?_
  refine g_sipush C (v := 940) dX12_feed_12 (by decide) ?_
  refine g_icmp_le C (tgt := 20) dX12_feed_15 (by decide) (fun h_14 => ?_) (fun h_14 => ?_)
  · skip
    have r_15 := le_l (h_14) rx_13 rc_940
    have r_16 := rg_der (k := 20) (lo := 0) (hi := 920) (ti_k tx_13 rc_20) r_15 rx_1 (by decide) (by decide)
    refine g_aload_n C 0 dX12_feed_20 rfl rfl ?_
    refine g_iload_n C 1 dX12_feed_21 rfl rfl ?_
    refine g_callVV C K (c_X12_come W9 hLx hkx a0  hU_8  (eq_rg (kp_j hI_7 (by decide) hx_1) (rg_w r_16 (by decide) (by decide)))) hLx hkx (by decide) rfl v_12_88 rfl ⟨rfl, rfl⟩ ⟨Nat.le_of_ble_eq_true rfl, Nat.le_of_ble_eq_true rfl⟩ (Nat.le_of_ble_eq_true rfl) ⟨Nat.le_of_ble_eq_true rfl, Nat.le_of_ble_eq_true rfl⟩ dX12_feed_22 rfl (st := []) (fun I_18 J_19 h_20 => ?_)
    obtain ⟨hUI_18, hFI_18, hGJ_19, fx_17, ex_17⟩ := h_20
    have hF_21 := fq_tr hF_9 hFI_18 (by decide)
    have hG_22 := fq_tr hG hGJ_19 (by decide)
    obtain ⟨s_24, hs_24⟩ : ∃ z, MTq I_18 J_19 x b_2 = z := ⟨_, rfl⟩
    obtain ⟨s_25, hs_25⟩ : ∃ z, NRq I_18 J_19 x b_4 b_5 = z := ⟨_, rfl⟩
    have c_23 : mCome (a0) (s_3) (s_6) = (s_24, s_25) := by have q := fx_17; simp only [emqx, enqx, hs_10, hs_11, hs_24, hs_25] at q; exact q.symm
    obtain ⟨x_26, hx_26, rx_26, tx_26⟩ := cm_x 4 924 ex_17 (kp_j hI_7 (by decide) hx_1) r_16 (by decide) (by decide)
    refine g_aload_n C 0 dX12_feed_25 rfl rfl ?_
    refine g_iload_n C 2 dX12_feed_26 rfl rfl ?_
    have f_27 : s_25.taped = x_26 := (congrArg NR_.taped hs_25).symm.trans hx_26
    refine g_callVV C K (c_X12_come W9 hLx hkx a1  hUI_18  (eq_rg hx_26 (rg_w rx_26 (by decide) (by decide)))) hLx hkx (by decide) rfl v_12_88 rfl ⟨rfl, rfl⟩ ⟨Nat.le_of_ble_eq_true rfl, Nat.le_of_ble_eq_true rfl⟩ (Nat.le_of_ble_eq_true rfl) ⟨Nat.le_of_ble_eq_true rfl, Nat.le_of_ble_eq_true rfl⟩ dX12_feed_27 rfl (st := []) (fun I_29 J_30 h_31 => ?_)
    obtain ⟨hUI_29, hFI_29, hGJ_30, fx_28, ex_28⟩ := h_31
    have hF_32 := fq_tr hF_21 hFI_29 (by decide)
    have hG_33 := fq_tr hG_22 hGJ_30 (by decide)
    obtain ⟨s_35, hs_35⟩ : ∃ z, MTq I_29 J_30 x b_2 = z := ⟨_, rfl⟩
    obtain ⟨s_36, hs_36⟩ : ∃ z, NRq I_29 J_30 x b_4 b_5 = z := ⟨_, rfl⟩
    have c_34 : mCome (a1) (s_24) (s_25) = (s_35, s_36) := by have q := fx_28; simp only [emqx, enqx, hs_24, hs_25, hs_35, hs_36] at q; exact q.symm
    obtain ⟨x_37, hx_37, rx_37, tx_37⟩ := cm_x 8 928 ex_28 hx_26 rx_26 (by decide) (by decide)
    refine g_aload_n C 0 dX12_feed_30 rfl rfl ?_
    refine g_iload_n C 3 dX12_feed_31 rfl rfl ?_
    have f_38 : s_36.taped = x_37 := (congrArg NR_.taped hs_36).symm.trans hx_37
    refine g_callVV C K (c_X12_come W9 hLx hkx a2  hUI_29  (eq_rg hx_37 (rg_w rx_37 (by decide) (by decide)))) hLx hkx (by decide) rfl v_12_88 rfl ⟨rfl, rfl⟩ ⟨Nat.le_of_ble_eq_true rfl, Nat.le_of_ble_eq_true rfl⟩ (Nat.le_of_ble_eq_true rfl) ⟨Nat.le_of_ble_eq_true rfl, Nat.le_of_ble_eq_true rfl⟩ dX12_feed_32 rfl (st := []) (fun I_40 J_41 h_42 => ?_)
    obtain ⟨hUI_40, hFI_40, hGJ_41, fx_39, ex_39⟩ := h_42
    have hF_43 := fq_tr hF_32 hFI_40 (by decide)
    have hG_44 := fq_tr hG_33 hGJ_41 (by decide)
    obtain ⟨s_46, hs_46⟩ : ∃ z, MTq I_40 J_41 x b_2 = z := ⟨_, rfl⟩
    obtain ⟨s_47, hs_47⟩ : ∃ z, NRq I_40 J_41 x b_4 b_5 = z := ⟨_, rfl⟩
    have c_45 : mCome (a2) (s_35) (s_36) = (s_46, s_47) := by have q := fx_39; simp only [emqx, enqx, hs_35, hs_36, hs_46, hs_47] at q; exact q.symm
    obtain ⟨x_48, hx_48, rx_48, tx_48⟩ := cm_x 12 932 ex_39 hx_37 rx_37 (by decide) (by decide)
    refine g_aload_n C 0 dX12_feed_35 rfl rfl ?_
    refine g_iload C 4 dX12_feed_36 rfl ?_
    have f_49 : s_47.taped = x_48 := (congrArg NR_.taped hs_47).symm.trans hx_48
    refine g_callVV C K (c_X12_come W9 hLx hkx a3  hUI_40  (eq_rg hx_48 (rg_w rx_48 (by decide) (by decide)))) hLx hkx (by decide) rfl v_12_88 rfl ⟨rfl, rfl⟩ ⟨Nat.le_of_ble_eq_true rfl, Nat.le_of_ble_eq_true rfl⟩ (Nat.le_of_ble_eq_true rfl) ⟨Nat.le_of_ble_eq_true rfl, Nat.le_of_ble_eq_true rfl⟩ dX12_feed_38 rfl (st := []) (fun I_51 J_52 h_53 => ?_)
    obtain ⟨hUI_51, hFI_51, hGJ_52, fx_50, ex_50⟩ := h_53
    have hF_54 := fq_tr hF_43 hFI_51 (by decide)
    have hG_55 := fq_tr hG_44 hGJ_52 (by decide)
    obtain ⟨s_57, hs_57⟩ : ∃ z, MTq I_51 J_52 x b_2 = z := ⟨_, rfl⟩
    obtain ⟨s_58, hs_58⟩ : ∃ z, NRq I_51 J_52 x b_4 b_5 = z := ⟨_, rfl⟩
    have c_56 : mCome (a3) (s_46) (s_47) = (s_57, s_58) := by have q := fx_50; simp only [emqx, enqx, hs_46, hs_47, hs_57, hs_58] at q; exact q.symm
    obtain ⟨x_59, hx_59, rx_59, tx_59⟩ := cm_x 16 936 ex_50 hx_48 rx_48 (by decide) (by decide)
    refine g_aload_n C 0 dX12_feed_41 rfl rfl ?_
    refine g_iload C 5 dX12_feed_42 rfl ?_
    have f_60 : s_58.taped = x_59 := (congrArg NR_.taped hs_58).symm.trans hx_59
    refine g_callVV C K (c_X12_come W9 hLx hkx a4  hUI_51  (eq_rg hx_59 (rg_w rx_59 (by decide) (by decide)))) hLx hkx (by decide) rfl v_12_88 rfl ⟨rfl, rfl⟩ ⟨Nat.le_of_ble_eq_true rfl, Nat.le_of_ble_eq_true rfl⟩ (Nat.le_of_ble_eq_true rfl) ⟨Nat.le_of_ble_eq_true rfl, Nat.le_of_ble_eq_true rfl⟩ dX12_feed_44 rfl (st := []) (fun I_62 J_63 h_64 => ?_)
    obtain ⟨hUI_62, hFI_62, hGJ_63, fx_61, ex_61⟩ := h_64
    have hF_65 := fq_tr hF_54 hFI_62 (by decide)
    have hG_66 := fq_tr hG_55 hGJ_63 (by decide)
    obtain ⟨s_68, hs_68⟩ : ∃ z, MTq I_62 J_63 x b_2 = z := ⟨_, rfl⟩
    obtain ⟨s_69, hs_69⟩ : ∃ z, NRq I_62 J_63 x b_4 b_5 = z := ⟨_, rfl⟩
    have c_67 : mCome (a4) (s_57) (s_58) = (s_68, s_69) := by have q := fx_61; simp only [emqx, enqx, hs_57, hs_58, hs_68, hs_69] at q; exact q.symm
    obtain ⟨x_70, hx_70, rx_70, tx_70⟩ := cm_x 20 940 ex_61 hx_59 rx_59 (by decide) (by decide)
    refine g_aload_n C 0 dX12_feed_47 rfl rfl ?_
    have f_71 : s_69.taped = x_70 := (congrArg NR_.taped hs_69).symm.trans hx_70
    refine g_getI C K hLx hkx f_12_85 (v := x_70) hx_70 dX12_feed_48 ?_
    exact g_zret (ty := .int) (r := x_70) B K rfl (rfl) ⟨hUI_62, hF_65, hG_66, rg_w rx_70 (by decide) (by decide), (by simp only [mFeed, emqx, hs_68, hs_3, enqx, hs_69, hs_6, hx_1, f_12, hx_13, h_14, c_23, hx_26, f_27, c_34, hx_37, f_38, c_45, hx_48, f_49, c_56, hx_59, f_60, c_67, hx_70, f_71, if_true, if_false, mqM_tp, mqM_size, mqM_limit, mqM_to, mqM_frm, mqM_kind, mqM_number, mqM_sign, mqM_word, MT_.w_tp, MT_.w_size, MT_.w_limit, MT_.w_to, MT_.w_frm, MT_.w_kind, MT_.w_number, MT_.w_sign, MT_.w_word, nqM_rd, nqM_rn, nqM_taped, nqM_mfault, nqM_mplace, nqM_told, nqM_hl, nqM_hd, NR_.w_rd, NR_.w_rn, NR_.w_taped, NR_.w_mfault, NR_.w_mplace, NR_.w_told, NR_.w_hl, NR_.w_hd]), (Or.inl ⟨by rw [hx_1]; have := (r_16).2; omega, hx_70, by rw [hx_1]; have := tx_70; have := tx_59; have := tx_48; have := tx_37; have := tx_26; omega⟩)⟩ dX12_feed_51
  · skip
    have r_72 := lt_r (lo := 941) (nle h_14) rc_940 rx_13 (by decide)
    have r_73 := rg_der (k := 20) (lo := 921) (hi := 940) (ti_k tx_13 rc_20) r_72 rx_1 (by decide) (by decide)
    refine g_iconst C (v := (-1)) dX12_feed_18 (by decide) ?_
    exact g_zret (ty := .int) (r := (-1)) B K rfl (rfl) ⟨hU_8, hF_9, hG, rg_w rc_m1 (by decide) (by decide), (by simp only [mFeed, emqx, hs_10, hs_3, enqx, hs_11, hs_6, hx_1, f_12, hx_13, h_14, (nle h_14), if_true, if_false, mqM_tp, mqM_size, mqM_limit, mqM_to, mqM_frm, mqM_kind, mqM_number, mqM_sign, mqM_word, MT_.w_tp, MT_.w_size, MT_.w_limit, MT_.w_to, MT_.w_frm, MT_.w_kind, MT_.w_number, MT_.w_sign, MT_.w_word, nqM_rd, nqM_rn, nqM_taped, nqM_mfault, nqM_mplace, nqM_told, nqM_hl, nqM_hd, NR_.w_rd, NR_.w_rn, NR_.w_taped, NR_.w_mfault, NR_.w_mplace, NR_.w_told, NR_.w_hl, NR_.w_hd]), (Or.inr ⟨by rw [hx_1]; have := (r_73).1; omega, rfl, (kp_j hI_7 (by decide) hx_1).trans hx_1.symm⟩)⟩ dX12_feed_19
set_option maxRecDepth 100000 in
set_option maxHeartbeats 8000000 in
theorem c_X12_end_e {l : Launch} {D : va_G} {cy : Nat → ClassId} {L : List Nat} {κ ln : Nat → Nat} {R : Nat → Nat → Option Nat} {I : Nat → Nat → Int32} {J : Nat → Nat → Int64} {ow : Nat → Nat × Nat} (W9 : ∀ a ∈ L, Shp L κ ln R ow a) {x : Nat} (hLx : x ∈ L) (hkx : κ x = 12) (a0 : Int32) (hU : Iw L κ R ow I) : CtI l yX12_end cX12_end 2 (some .boolean) { frames := 0, cells := 0, slots := 0, locals := 0 } D cy L κ ln R I J [.ref x, .int a0] (fun r I2 J2 => Iw L κ R ow I2 ∧ Fq L κ ow [1200, 1202] I I2 ∧ Fq L κ ow [] J J2 ∧ Rg 0 1 r ∧ (Te_ (I x 2) (I2 x 2) a0 r)) := by
  obtain ⟨x_1, hx_1, rx_1⟩ := ex_getw (I := I) (a := x) (j := 2) (lo := 0) (hi := 940) hU.1 hLx (ro_o hkx (by decide)) rfl
  refine CtI.of (by decide +kernel) (Nat.le_of_ble_eq_true rfl) ?_
  intro p e s m below meth c B K
  have C := B.1
  have hF : Fq L κ ow [1200, 1202] I I := fq_rf
  have hG : Fq L κ ow [] J J := fq_rf
  refine g_lo (is := [0, 1]) (lo2 := [(0, .ref x), (1, .int a0)]) rfl ?_
  refine g_aload_n C 0 dX12_end_0 rfl rfl ?_
  refine g_iconst C (v := 0) dX12_end_1 (by decide) ?_
  refine h_putI C K hLx hkx f_12_82 p_12_0 dX12_end_2 (fun I_2 hI_2 => ?_)
  have hU_3 := iw_put W9 hU hI_2 (ro_o hkx (by decide)) (lo := (-2147483648)) (hi := 2147483647) (rfl) (rg_all _) rfl
  have hF_4 := fq_puto hF hI_2 hkx (by decide) (by decide)
  refine g_iload_n C 1 dX12_end_5 rfl rfl ?_
  refine g_if_lt C (tgt := 17) dX12_end_6 (by decide) (fun h_5 => ?_) (fun h_5 => ?_)
  · skip
    have r_6 := lt_l (hi := (-1)) (h_5) (rg_all a0) rc_0 (by decide)
    refine g_iconst C (v := 0) dX12_end_17 (by decide) ?_
    exact g_zret (ty := .boolean) (r := 0) B K rfl (rfl) ⟨hU_3, hF_4, hG, rg_w rc_0 (by decide) (by decide), (Or.inr ⟨Or.inl (by have := (r_6).2; omega), rfl, (kp_j hI_2 (by decide) hx_1).trans hx_1.symm⟩)⟩ dX12_end_18
  · skip
    have r_7 := le_r (nlt h_5) rc_0 (rg_all a0)
    refine g_iload_n C 1 dX12_end_9 rfl rfl ?_
    refine g_aload_n C 0 dX12_end_10 rfl rfl ?_
    refine g_getI C K hLx hkx f_12_85 (v := x_1) (kp_j hI_2 (by decide) hx_1) dX12_end_11 ?_
    refine g_icmp_le C (tgt := 19) dX12_end_14 (by decide) (fun h_8 => ?_) (fun h_8 => ?_)
    · skip
      have r_9 := le_l (h_8) r_7 rx_1
      refine g_aload_n C 0 dX12_end_19 rfl rfl ?_
      refine g_iload_n C 1 dX12_end_20 rfl rfl ?_
      refine h_putI C K hLx hkx f_12_85 p_12_2 dX12_end_21 (fun I_10 hI_10 => ?_)
      have hU_11 := iw_put W9 hU_3 hI_10 (ro_o hkx (by decide)) (lo := 0) (hi := 940) (rfl) (r_9) rfl
      have hF_12 := fq_puto hF_4 hI_10 hkx (by decide) (by decide)
      refine g_iconst C (v := 1) dX12_end_24 (by decide) ?_
      exact g_zret (ty := .boolean) (r := 1) B K rfl (rfl) ⟨hU_11, hF_12, hG, rg_w rc_1 (by decide) (by decide), (Or.inl ⟨by have := (r_9).1; omega, by rw [hx_1]; exact Int32.le_iff_toInt_le.mp (h_8), rfl, (kp_s hI_10)⟩)⟩ dX12_end_25
    · skip
      have r_13 := lt_r (lo := 1) (nle h_8) rx_1 r_7 (by decide)
      refine g_iconst C (v := 0) dX12_end_17 (by decide) ?_
      exact g_zret (ty := .boolean) (r := 0) B K rfl (rfl) ⟨hU_3, hF_4, hG, rg_w rc_0 (by decide) (by decide), (Or.inr ⟨Or.inr (by rw [hx_1]; exact Int32.lt_iff_toInt_lt.mp (nle h_8)), rfl, (kp_j hI_2 (by decide) hx_1).trans hx_1.symm⟩)⟩ dX12_end_18
set_option maxRecDepth 100000 in
set_option maxHeartbeats 8000000 in
theorem c_X12_take_e {l : Launch} {D : va_G} {cy : Nat → ClassId} {L : List Nat} {κ ln : Nat → Nat} {R : Nat → Nat → Option Nat} {I : Nat → Nat → Int32} {J : Nat → Nat → Int64} {ow : Nat → Nat × Nat} (W9 : ∀ a ∈ L, Shp L κ ln R ow a) {x : Nat} (hLx : x ∈ L) (hkx : κ x = 12) (hU : Iw L κ R ow I) : CtI l yX12_take cX12_take 2 (some .int) { frames := 0, cells := 0, slots := 0, locals := 0 } D cy L κ ln R I J [.ref x] (fun r I2 J2 => Iw L κ R ow I2 ∧ Fq L κ ow [1202] I I2 ∧ Fq L κ ow [] J J2 ∧ Rg 0 940 r ∧ ((r, NRf R I2 J2 x) = mTake (NRf R I J x)) ∧ (I2 x 2 = 0)) := by
  refine CtI.of (by decide +kernel) (Nat.le_of_ble_eq_true rfl) ?_
  intro p e s m below meth c B K
  have C := B.1
  have hF : Fq L κ ow [1202] I I := fq_rf
  have hG : Fq L κ ow [] J J := fq_rf
  obtain ⟨b_1, hb_1, hb_1L, hb_1k, hb_1n, hb_1o⟩ := shp_a (W9 x hLx) hkx 15 14 72 rfl (by decide)
  obtain ⟨b_2, hb_2, hb_2L, hb_2k, hb_2n, hb_2o⟩ := shp_a (W9 x hLx) hkx 20 15 13 rfl (by decide)
  have enqx : ∀ I J, NRf R I J x = NRq I J x b_1 b_2 := fun I J => by simp only [NRf, rr_, Option.getD_some, hb_1, hb_2]
  have wnqx : nqw_ L κ ow x b_1 b_2 := ⟨⟨hLx, hb_1L, hb_2L⟩, ⟨(ro_o hkx (by decide)), (ro_a hb_1k (by decide) hb_1o hkx rfl), (ro_a hb_2k (by decide) hb_2o hkx rfl)⟩⟩
  obtain ⟨s_3, hs_3⟩ : ∃ z, NRq I J x b_1 b_2 = z := ⟨_, rfl⟩
  refine g_lo (is := [0]) (lo2 := [(0, .ref x)]) rfl ?_
  refine g_aload_n C 0 dX12_take_0 rfl rfl ?_
  obtain ⟨x_4, hx_4, rx_4⟩ := ex_getw (I := I) (a := x) (j := 2) (lo := 0) (hi := 940) hU.1 hLx (ro_o hkx (by decide)) rfl
  have f_5 : s_3.taped = x_4 := (congrArg NR_.taped hs_3).symm.trans hx_4
  refine g_getI C K hLx hkx f_12_85 (v := x_4) hx_4 dX12_take_1 ?_
  refine g_istore_n C dX12_take_4 rfl (by decide) (lo2 := [(1, .int x_4), (0, .ref x)]) rfl ?_
  refine g_aload_n C 1 dX12_take_5 rfl rfl ?_
  refine g_iconst C (v := 0) dX12_take_6 (by decide) ?_
  refine h_putI C K hLx hkx f_12_85 p_12_2 dX12_take_7 (fun I_6 hI_6 => ?_)
  have hU_7 := iw_put W9 hU hI_6 (ro_o hkx (by decide)) (lo := 0) (hi := 940) (rfl) (rg_w rc_0 (by decide) (by decide)) rfl
  have hF_8 := fq_puto hF hI_6 hkx (by decide) (by decide)
  have hs_9 : NRq I_6 J x b_1 b_2 = (NR_.w_taped s_3 (0)) := by rw [hI_6]; exact ((nq_taped wnqx).trans (congrArg (fun z : NR_ => NR_.w_taped z (0)) hs_3)).trans rfl
  refine g_iload_n C 0 dX12_take_10 rfl rfl ?_
  exact g_zret (ty := .int) (r := x_4) B K rfl (rfl) ⟨hU_7, hF_8, hG, rx_4, (by simp only [mTake, enqx, hs_9, hs_3, hx_4, f_5, if_true, if_false, nqM_rd, nqM_rn, nqM_taped, nqM_mfault, nqM_mplace, nqM_told, nqM_hl, nqM_hd, NR_.w_rd, NR_.w_rn, NR_.w_taped, NR_.w_mfault, NR_.w_mplace, NR_.w_told, NR_.w_hl, NR_.w_hd]), (kp_s hI_6)⟩ dX12_take_11
set_option maxRecDepth 100000 in
set_option maxHeartbeats 8000000 in
theorem c_X12_begin_e {l : Launch} {D : va_G} {cy : Nat → ClassId} {L : List Nat} {κ ln : Nat → Nat} {R : Nat → Nat → Option Nat} {I : Nat → Nat → Int32} {J : Nat → Nat → Int64} {ow : Nat → Nat × Nat} (W9 : ∀ a ∈ L, Shp L κ ln R ow a) {x : Nat} (hLx : x ∈ L) (hkx : κ x = 12) (a0 : Int32) (ra0 : Rg 200 900 a0) (hU : Iw L κ R ow I) : CtV l yX12_begin cX12_begin 2 none { frames := 2, cells := 0, slots := 0, locals := 45 } D cy L κ ln R I J [.ref x, .int a0] (fun I2 J2 => Iw L κ R ow I2 ∧ Fq L κ ow [1200, 1202, 1203, 1204, 1205, 1206, 1207, 1208, 1209, 1210] I I2 ∧ Fq L κ ow [1212] J J2 ∧ ((MTf R I2 J2 x, NRf R I2 J2 x) = mBegin a0 (MTf R I J x) (NRf R I J x)) ∧ (I2 x 2 = 0)) := by
  refine CtV.of (by decide +kernel) (Nat.le_of_ble_eq_true rfl) ?_
  intro p e s m below meth c B K
  have C := B.1
  have hF : Fq L κ ow [1200, 1202, 1203, 1204, 1205, 1206, 1207, 1208, 1209, 1210] I I := fq_rf
  have hG : Fq L κ ow [1212] J J := fq_rf
  obtain ⟨b_1, hb_1, hb_1L, hb_1k, hb_1n, hb_1o⟩ := shp_a (W9 x hLx) hkx 1 14 940 rfl (by decide)
  have emqx : ∀ I J, MTf R I J x = MTq I J x b_1 := fun I J => by simp only [MTf, rr_, Option.getD_some, hb_1]
  have wmqx : mqw_ L κ ow x b_1 := ⟨⟨hLx, hb_1L⟩, ⟨(ro_o hkx (by decide)), (ro_a hb_1k (by decide) hb_1o hkx rfl)⟩⟩
  obtain ⟨s_2, hs_2⟩ : ∃ z, MTq I J x b_1 = z := ⟨_, rfl⟩
  obtain ⟨b_3, hb_3, hb_3L, hb_3k, hb_3n, hb_3o⟩ := shp_a (W9 x hLx) hkx 15 14 72 rfl (by decide)
  obtain ⟨b_4, hb_4, hb_4L, hb_4k, hb_4n, hb_4o⟩ := shp_a (W9 x hLx) hkx 20 15 13 rfl (by decide)
  have enqx : ∀ I J, NRf R I J x = NRq I J x b_3 b_4 := fun I J => by simp only [NRf, rr_, Option.getD_some, hb_3, hb_4]
  have wnqx : nqw_ L κ ow x b_3 b_4 := ⟨⟨hLx, hb_3L, hb_4L⟩, ⟨(ro_o hkx (by decide)), (ro_a hb_3k (by decide) hb_3o hkx rfl), (ro_a hb_4k (by decide) hb_4o hkx rfl)⟩⟩
  obtain ⟨s_5, hs_5⟩ : ∃ z, NRq I J x b_3 b_4 = z := ⟨_, rfl⟩
  refine g_lo (is := [0, 1]) (lo2 := [(0, .ref x), (1, .int a0)]) rfl ?_
  refine g_aload_n C 0 dX12_begin_0 rfl rfl ?_
  refine g_iconst C (v := 0) dX12_begin_1 (by decide) ?_
  refine h_putI C K hLx hkx f_12_82 p_12_0 dX12_begin_2 (fun I_6 hI_6 => ?_)
  have hU_7 := iw_put W9 hU hI_6 (ro_o hkx (by decide)) (lo := (-2147483648)) (hi := 2147483647) (rfl) (rg_all _) rfl
  have hF_8 := fq_puto hF hI_6 hkx (by decide) (by decide)
  have hs_9 : MTq I_6 J x b_1 = s_2 := by rw [hI_6]; exact (mq_uIt wmqx (by decide)).trans hs_2
  have hs_10 : NRq I_6 J x b_3 b_4 = s_5 := by rw [hI_6]; exact (nq_uIt wnqx (by decide)).trans hs_5
  refine g_aload_n C 0 dX12_begin_5 rfl rfl ?_
  refine g_aload_n C 0 dX12_begin_6 rfl rfl ?_
  refine g_callVI C K (c_X12_take_e W9 hLx hkx   hU_7) hLx hkx (by decide) rfl v_12_162 rfl ⟨rfl, rfl⟩ ⟨Nat.le_of_ble_eq_true rfl, Nat.le_of_ble_eq_true rfl⟩ (Nat.le_of_ble_eq_true rfl) ⟨Nat.le_of_ble_eq_true rfl, Nat.le_of_ble_eq_true rfl⟩ dX12_begin_7 rfl (st := [.ref x]) (fun x_11 I_12 J_13 h_14 => ?_)
  obtain ⟨hUI_12, hFI_12, hGJ_13, rx_11, fx_11, ex_11⟩ := h_14
  have hF_15 := fq_tr hF_8 hFI_12 (by decide)
  have hG_16 := fq_tr hG hGJ_13 (by decide)
  obtain ⟨s_18, hs_18⟩ : ∃ z, NRq I_12 J_13 x b_3 b_4 = z := ⟨_, rfl⟩
  have c_17 : mTake (s_5) = (x_11, s_18) := by have q := fx_11; simp only [enqx, hs_10, hs_18] at q; exact q.symm
  have hs_19 : MTq I_12 J_13 x b_1 = s_2 := (mq_fq wmqx hFI_12 hGJ_13 (by decide) (by decide)).trans hs_9
  refine h_putI C K hLx hkx f_12_92 p_12_3 dX12_begin_10 (fun I_20 hI_20 => ?_)
  have hU_21 := iw_put W9 hUI_12 hI_20 (ro_o hkx (by decide)) (lo := 0) (hi := 940) (rfl) (rx_11) rfl
  have hF_22 := fq_puto hF_15 hI_20 hkx (by decide) (by decide)
  have hs_23 : MTq I_20 J_13 x b_1 = (MT_.w_size s_2 (x_11)) := by rw [hI_20]; exact ((mq_size wmqx).trans (congrArg (fun z : MT_ => MT_.w_size z (x_11)) hs_19)).trans rfl
  have hs_24 : NRq I_20 J_13 x b_3 b_4 = s_18 := by rw [hI_20]; exact (nq_uIt wnqx (by decide)).trans hs_18
  refine g_aload_n C 0 dX12_begin_13 rfl rfl ?_
  refine g_iload_n C 1 dX12_begin_14 rfl rfl ?_
  refine h_putI C K hLx hkx f_12_101 p_12_4 dX12_begin_15 (fun I_25 hI_25 => ?_)
  have hU_26 := iw_put W9 hU_21 hI_25 (ro_o hkx (by decide)) (lo := 0) (hi := 900) (rfl) (rg_w ra0 (by decide) (by decide)) rfl
  have hF_27 := fq_puto hF_22 hI_25 hkx (by decide) (by decide)
  have hs_28 : MTq I_25 J_13 x b_1 = (MT_.w_limit (MT_.w_size s_2 (x_11)) (a0)) := by rw [hI_25]; exact ((mq_limit wmqx).trans (congrArg (fun z : MT_ => MT_.w_limit z (a0)) hs_23)).trans rfl
  have hs_29 : NRq I_25 J_13 x b_3 b_4 = s_18 := by rw [hI_25]; exact (nq_uIt wnqx (by decide)).trans hs_24
  refine g_aload_n C 0 dX12_begin_18 rfl rfl ?_
  refine g_iconst C (v := 0) dX12_begin_19 (by decide) ?_
  refine h_putI C K hLx hkx f_12_140 p_12_10 dX12_begin_20 (fun I_30 hI_30 => ?_)
  have hU_31 := iw_put W9 hU_26 hI_30 (ro_o hkx (by decide)) (lo := (-2147483648)) (hi := 2147483647) (rfl) (rg_all _) rfl
  have hF_32 := fq_puto hF_27 hI_30 hkx (by decide) (by decide)
  have hs_33 : MTq I_30 J_13 x b_1 = (MT_.w_limit (MT_.w_size s_2 (x_11)) (a0)) := by rw [hI_30]; exact (mq_uIt wmqx (by decide)).trans hs_28
  have hs_34 : NRq I_30 J_13 x b_3 b_4 = (NR_.w_mfault s_18 (0)) := by rw [hI_30]; exact ((nq_mfault wnqx).trans (congrArg (fun z : NR_ => NR_.w_mfault z (0)) hs_29)).trans rfl
  refine g_aload_n C 0 dX12_begin_23 rfl rfl ?_
  refine g_iconst C (v := 0) dX12_begin_24 (by decide) ?_
  refine h_putI C K hLx hkx f_12_95 p_12_5 dX12_begin_25 (fun I_35 hI_35 => ?_)
  have hU_36 := iw_put W9 hU_31 hI_35 (ro_o hkx (by decide)) (lo := 0) (hi := 940) (rfl) (rg_w rc_0 (by decide) (by decide)) rfl
  have hF_37 := fq_puto hF_32 hI_35 hkx (by decide) (by decide)
  have hs_38 : MTq I_35 J_13 x b_1 = (MT_.w_to (MT_.w_limit (MT_.w_size s_2 (x_11)) (a0)) (0)) := by rw [hI_35]; exact ((mq_to wmqx).trans (congrArg (fun z : MT_ => MT_.w_to z (0)) hs_33)).trans rfl
  have hs_39 : NRq I_35 J_13 x b_3 b_4 = (NR_.w_mfault s_18 (0)) := by rw [hI_35]; exact (nq_uIt wnqx (by decide)).trans hs_34
  refine g_aload_n C 0 dX12_begin_28 rfl rfl ?_
  refine g_callVV C K (c_X12_go W9 hLx hkx   hU_36) hLx hkx (by decide) rfl v_12_156 rfl ⟨rfl, rfl⟩ ⟨Nat.le_of_ble_eq_true rfl, Nat.le_of_ble_eq_true rfl⟩ (Nat.le_of_ble_eq_true rfl) ⟨Nat.le_of_ble_eq_true rfl, Nat.le_of_ble_eq_true rfl⟩ dX12_begin_29 rfl (st := []) (fun I_41 J_42 h_43 => ?_)
  obtain ⟨hUI_41, hFI_41, hGJ_42, fx_40, ex_40⟩ := h_43
  have hF_44 := fq_tr hF_37 hFI_41 (by decide)
  have hG_45 := fq_tr hG_16 hGJ_42 (by decide)
  obtain ⟨s_47, hs_47⟩ : ∃ z, MTq I_41 J_42 x b_1 = z := ⟨_, rfl⟩
  have c_46 : mGo ((MT_.w_to (MT_.w_limit (MT_.w_size s_2 (x_11)) (a0)) (0))) = s_47 := by have q := fx_40; simp only [emqx, hs_38, hs_47] at q; exact q.symm
  have hs_48 : NRq I_41 J_42 x b_3 b_4 = (NR_.w_mfault s_18 (0)) := (nq_fq wnqx hFI_41 hGJ_42 (by decide) (by decide)).trans hs_39
  have f_49 : s_18.taped = 0 := (congrArg NR_.taped hs_48).symm.trans (fq_at hFI_41 hLx hkx (by decide) (by decide) (kp_j hI_35 (by decide) (kp_j hI_30 (by decide) (kp_j hI_25 (by decide) (kp_j hI_20 (by decide) ex_11)))))
  exact g_vret B K rfl ⟨hUI_41, hF_44, hG_45, (by (try simp only [c_17, if_true, if_false, mqM_tp, mqM_size, mqM_limit, mqM_to, mqM_frm, mqM_kind, mqM_number, mqM_sign, mqM_word, MT_.w_tp, MT_.w_size, MT_.w_limit, MT_.w_to, MT_.w_frm, MT_.w_kind, MT_.w_number, MT_.w_sign, MT_.w_word, nqM_rd, nqM_rn, nqM_taped, nqM_mfault, nqM_mplace, nqM_told, nqM_hl, nqM_hd, NR_.w_rd, NR_.w_rn, NR_.w_taped, NR_.w_mfault, NR_.w_mplace, NR_.w_told, NR_.w_hl, NR_.w_hd] at c_46); simp only [mBegin, emqx, hs_47, hs_2, enqx, hs_48, hs_5, c_17, c_46, if_true, if_false, mqM_tp, mqM_size, mqM_limit, mqM_to, mqM_frm, mqM_kind, mqM_number, mqM_sign, mqM_word, MT_.w_tp, MT_.w_size, MT_.w_limit, MT_.w_to, MT_.w_frm, MT_.w_kind, MT_.w_number, MT_.w_sign, MT_.w_word, nqM_rd, nqM_rn, nqM_taped, nqM_mfault, nqM_mplace, nqM_told, nqM_hl, nqM_hd, NR_.w_rd, NR_.w_rn, NR_.w_taped, NR_.w_mfault, NR_.w_mplace, NR_.w_told, NR_.w_hl, NR_.w_hd]), (fq_at hFI_41 hLx hkx (by decide) (by decide) (kp_j hI_35 (by decide) (kp_j hI_30 (by decide) (kp_j hI_25 (by decide) (kp_j hI_20 (by decide) ex_11)))))⟩ dX12_begin_32
set_option maxRecDepth 100000 in
set_option maxHeartbeats 8000000 in
theorem c_X12_table_e {l : Launch} {D : va_G} {cy : Nat → ClassId} {L : List Nat} {κ ln : Nat → Nat} {R : Nat → Nat → Option Nat} {I : Nat → Nat → Int32} {J : Nat → Nat → Int64} {ow : Nat → Nat × Nat} (W9 : ∀ a ∈ L, Shp L κ ln R ow a) {x : Nat} (hLx : x ∈ L) (hkx : κ x = 12) (hU : Iw L κ R ow I) : CtI l yX12_table cX12_table 3 (some .int) { frames := 7, cells := 0, slots := 0, locals := 154 } D cy L κ ln R I J [.ref x] (fun r I2 J2 => Iw L κ R ow I2 ∧ Fq L κ ow [1200, 1202, 1203, 1204, 1205, 1206, 1207, 1208, 1209, 1210, 1211, 1213, 1223, 1224, 1225, 83400, 83500] I I2 ∧ Fq L κ ow [1212, 83900, 84000] J J2 ∧ Rg (-2147483648) 2147483647 r ∧ (r = mTable (MTf R I J x) (NRf R I J x)) ∧ ((mTableB (MTf R I J x) (NRf R I J x) = none ∧ Hd_ R x I I2) ∨ Nt_ R x I2 (mTableB (MTf R I J x) (NRf R I J x))) ∧ ((mTableN (MTf R I J x) (NRf R I J x) = none ∧ Rj_ R x J J2) ∨ Ny_ R x J2 (mTableN (MTf R I J x) (NRf R I J x))) ∧ (I2 x 10 = mTableF (MTf R I J x) (NRf R I J x)) ∧ ((I2 x 2) = 0)) := by
  obtain ⟨zf, hzf⟩ : ∃ z, mTableF (MTf R I J x) (NRf R I J x) = z := ⟨_, rfl⟩
  have rzf : Rg (-2147483648) 2147483647 zf := rg_all zf
  obtain ⟨b_1, hb_1, hb_1L, hb_1k, hb_1n, hb_1o⟩ := shp_a (W9 x hLx) hkx 19 15 13 rfl (by decide)
  obtain ⟨b_2, hb_2, hb_2L, hb_2k, hb_2n, hb_2o⟩ := shp_a (W9 x hLx) hkx 20 15 13 rfl (by decide)
  obtain ⟨b_3, hb_3, hb_3L, hb_3k, hb_3n, hb_3o⟩ := shp_a (W9 x hLx) hkx 21 15 26 rfl (by decide)
  refine CtI.of (by decide +kernel) (Nat.le_of_ble_eq_true rfl) ?_
  intro p e s m below meth c B K
  have C := B.1
  have hF : Fq L κ ow [1200, 1202, 1203, 1204, 1205, 1206, 1207, 1208, 1209, 1210, 1211, 1213, 1223, 1224, 1225, 83400, 83500] I I := fq_rf
  have hG : Fq L κ ow [1212, 83900, 84000] J J := fq_rf
  obtain ⟨b_4, hb_4, hb_4L, hb_4k, hb_4n, hb_4o⟩ := shp_a (W9 x hLx) hkx 15 14 72 rfl (by decide)
  obtain ⟨b_5, hb_5, hb_5L, hb_5k, hb_5n, hb_5o⟩ := shp_a (W9 x hLx) hkx 14 14 389 rfl (by decide)
  obtain ⟨b_6, hb_6, hb_6L, hb_6k, hb_6n, hb_6o⟩ := shp_a (W9 x hLx) hkx 1 14 940 rfl (by decide)
  have emqx : ∀ I J, MTf R I J x = MTq I J x b_6 := fun I J => by simp only [MTf, rr_, Option.getD_some, hb_6]
  have wmqx : mqw_ L κ ow x b_6 := ⟨⟨hLx, hb_6L⟩, ⟨(ro_o hkx (by decide)), (ro_a hb_6k (by decide) hb_6o hkx rfl)⟩⟩
  obtain ⟨s_7, hs_7⟩ : ∃ z, MTq I J x b_6 = z := ⟨_, rfl⟩
  have enqx : ∀ I J, NRf R I J x = NRq I J x b_4 b_2 := fun I J => by simp only [NRf, rr_, Option.getD_some, hb_4, hb_2]
  have wnqx : nqw_ L κ ow x b_4 b_2 := ⟨⟨hLx, hb_4L, hb_2L⟩, ⟨(ro_o hkx (by decide)), (ro_a hb_4k (by decide) hb_4o hkx rfl), (ro_a hb_2k (by decide) hb_2o hkx rfl)⟩⟩
  obtain ⟨s_8, hs_8⟩ : ∃ z, NRq I J x b_4 b_2 = z := ⟨_, rfl⟩
  refine g_lo (is := [0]) (lo2 := [(0, .ref x)]) rfl ?_
  have l_102 : ∀ (n_102 : Nat) (I_9 : Nat → Nat → Int32) (J_10 : Nat → Nat → Int64) (hU_11 : Iw1 L κ R ow I_9) (hF_12 : Fq L κ ow [1200, 1202, 1203, 1204, 1205, 1206, 1207, 1208, 1209, 1210, 1211, 1213, 1223, 1224, 1225, 83400, 83500] I I_9) (hG_13 : Fq L κ ow [1212, 83900, 84000] J J_10) (v_14 : Int32) (v_15 : Int32) (rv_15 : Rg 0 13 v_15) (v_16 : Int32) (v_17 : Int32) (rv_17 : Rg 0 0 v_17) (q_18 : I_9 x 10 = v_16) (q_19 : I_9 x 2 = 0) (q_20 : I_9 x 7 = v_17) (hq_21 : v_14 = mTable s_7 s_8) (hd_22 : Nt_ R x I_9 (mTableB (MTf R I J x) (NRf R I J x))) (nx_23 : Nx_ R x J_10 v_15.toNatClampNeg (mTableN (MTf R I J x) (NRf R I J x))) (zq_24 : I_9 x 10 = zf) (hm_25 : 13 < (v_15 : Int32).toInt + (n_102 : Int)), WG p l e { frames := 7, cells := 0, slots := 0, locals := 154 } s m ([.ref x] : List Value).toArray below meth c 3 0 0 (MQ below (Qi_ D cy L κ ln R (fun r I2 J2 => Iw L κ R ow I2 ∧ Fq L κ ow [1200, 1202, 1203, 1204, 1205, 1206, 1207, 1208, 1209, 1210, 1211, 1213, 1223, 1224, 1225, 83400, 83500] I I2 ∧ Fq L κ ow [1212, 83900, 84000] J J2 ∧ Rg (-2147483648) 2147483647 r ∧ (r = mTable (MTf R I J x) (NRf R I J x)) ∧ ((mTableB (MTf R I J x) (NRf R I J x) = none ∧ Hd_ R x I I2) ∨ Nt_ R x I2 (mTableB (MTf R I J x) (NRf R I J x))) ∧ ((mTableN (MTf R I J x) (NRf R I J x) = none ∧ Rj_ R x J J2) ∨ Ny_ R x J2 (mTableN (MTf R I J x) (NRf R I J x))) ∧ (I2 x 10 = mTableF (MTf R I J x) (NRf R I J x)) ∧ ((I2 x 2) = 0))) ([.ref x] : List Value).toArray s 0 0 (Al_ L)) D cy (Al_ L) s.heap L κ ln R I_9 J_10 102 [(0, .ref x), (1, .int v_14), (2, .int v_15)] [] := by
    intro n_102
    induction n_102 with
    | zero =>
      intro I_9 J_10 hU_11 hF_12 hG_13 v_14 v_15 rv_15 v_16 v_17 rv_17 q_18 q_19 q_20 hq_21 hd_22 nx_23 zq_24 hm_25
      exact ms_0 rv_15 hm_25
    | succ n_102 ih_102 =>
      intro I_9 J_10 hU_11 hF_12 hG_13 v_14 v_15 rv_15 v_16 v_17 rv_17 q_18 q_19 q_20 hq_21 hd_22 nx_23 zq_24 hm_25
      obtain ⟨s_26, hs_26⟩ : ∃ z, MTq I_9 J_10 x b_6 = z := ⟨_, rfl⟩
      obtain ⟨s_27, hs_27⟩ : ∃ z, NRq I_9 J_10 x b_4 b_2 = z := ⟨_, rfl⟩
      (try simp only [hs_26, hs_27] at hq_21)
      have hQ_28 := hq_21.symm
      refine g_iload_n C 2 dX12_table_102 rfl rfl ?_
      refine g_bipush C (v := 13) dX12_table_103 (by decide) ?_
      refine g_icmp_ge C (tgt := 126) dX12_table_105 (by decide) (fun h_29 => ?_) (fun h_29 => ?_)
      · skip
        have r_30 := le_r (h_29) rc_13 rv_15
        refine g_aload_n C 0 dX12_table_126 rfl rfl ?_
        refine g_callVV C K (c_X12_startSo W9 hLx hkx   hU_11) hLx hkx (by decide) rfl v_12_225 rfl ⟨rfl, rfl⟩ ⟨Nat.le_of_ble_eq_true rfl, Nat.le_of_ble_eq_true rfl⟩ (Nat.le_of_ble_eq_true rfl) ⟨Nat.le_of_ble_eq_true rfl, Nat.le_of_ble_eq_true rfl⟩ dX12_table_127 rfl (st := []) (fun I_32 J_33 h_34 => ?_)
        obtain ⟨hUI_32, hFI_32, hGJ_33, ex_31⟩ := h_34
        have hF_35 := fq_tr hF_12 hFI_32 (by decide)
        have hG_36 := fq_tr hG_13 hGJ_33 (by decide)
        have hs_37 : MTq I_32 J_33 x b_6 = s_26 := (mq_fq wmqx hFI_32 hGJ_33 (by decide) (by decide)).trans hs_26
        have hs_38 : NRq I_32 J_33 x b_4 b_2 = s_27 := (nq_fq wnqx hFI_32 hGJ_33 (by decide) (by decide)).trans hs_27
        refine g_aload_n C 0 dX12_table_130 rfl rfl ?_
        refine g_iconst C (v := 0) dX12_table_131 (by decide) ?_
        refine h_putI C K hLx hkx f_12_228 p_12_23 dX12_table_132 (fun I_39 hI_39 => ?_)
        have hU_40 := iw_z W9 hUI_32 (uw_put hUI_32.1 hI_39 (ro_o hkx (by decide)) (lo := 0) (hi := 8) (rfl) (rg_w rc_0 (by decide) (by decide))) hLx hkx hI_39
        have hF_41 := fq_puto hF_35 hI_39 hkx (by decide) (by decide)
        have hs_42 : MTq I_39 J_33 x b_6 = s_26 := by rw [hI_39]; exact (mq_uIt wmqx (by decide)).trans hs_37
        have hs_43 : NRq I_39 J_33 x b_4 b_2 = s_27 := by rw [hI_39]; exact (nq_uIt wnqx (by decide)).trans hs_38
        refine g_iload_n C 1 dX12_table_135 rfl rfl ?_
        have f_44 : s_27.taped = 0 := (congrArg NR_.taped hs_43).symm.trans (kp_j hI_39 (by decide) (fq_at hFI_32 hLx hkx (by decide) (by decide) q_19))
        exact g_zret (ty := .int) (r := v_14) B K rfl (rfl) ⟨hU_40, hF_41, hG_36, (rg_all v_14), (by (try simp only [h_29, if_true, if_false, mqM_tp, mqM_size, mqM_limit, mqM_to, mqM_frm, mqM_kind, mqM_number, mqM_sign, mqM_word, MT_.w_tp, MT_.w_size, MT_.w_limit, MT_.w_to, MT_.w_frm, MT_.w_kind, MT_.w_number, MT_.w_sign, MT_.w_word, nqM_rd, nqM_rn, nqM_taped, nqM_mfault, nqM_mplace, nqM_told, nqM_hl, nqM_hd, NR_.w_rd, NR_.w_rn, NR_.w_taped, NR_.w_mfault, NR_.w_mplace, NR_.w_told, NR_.w_hl, NR_.w_hd] at hQ_28); simp only [emqx, hs_42, hs_7, enqx, hs_43, hs_8, hQ_28, h_29, if_true, if_false, mqM_tp, mqM_size, mqM_limit, mqM_to, mqM_frm, mqM_kind, mqM_number, mqM_sign, mqM_word, MT_.w_tp, MT_.w_size, MT_.w_limit, MT_.w_to, MT_.w_frm, MT_.w_kind, MT_.w_number, MT_.w_sign, MT_.w_word, nqM_rd, nqM_rn, nqM_taped, nqM_mfault, nqM_mplace, nqM_told, nqM_hl, nqM_hd, NR_.w_rd, NR_.w_rn, NR_.w_taped, NR_.w_mfault, NR_.w_mplace, NR_.w_told, NR_.w_hl, NR_.w_hd]), (Or.inr (nt_hd (nt_hd hd_22 ex_31) (hd_u (r := 0) W9 hLx hkx hd_rf hI_39 (Or.inl (ro_o hkx (by decide)))))), (Or.inr (nn_fq W9 hLx hkx (nn_of nx_23 (Nat.le_of_eq (nn13 r_30).symm)) hGJ_33 (by decide))), (Eq.trans (kp_j hI_39 (by decide) (fq_at hFI_32 hLx hkx (by decide) (by decide) zq_24)) hzf.symm), ((kp_j hI_39 (by decide) (fq_at hFI_32 hLx hkx (by decide) (by decide) q_19)))⟩ dX12_table_136
      · skip
        have r_45 := lt_l (hi := 12) (nle h_29) rv_15 rc_13 (by decide)
        refine g_aload_n C 0 dX12_table_108 rfl rfl ?_
        refine g_getR C K hLx hkx f_12_28 hb_1 dX12_table_109 ?_
        refine g_iload_n C 2 dX12_table_112 rfl rfl ?_
        refine g_aload_n C 0 dX12_table_113 rfl rfl ?_
        refine g_getR C K hLx hkx f_12_32 hb_2 dX12_table_114 ?_
        refine g_iload_n C 2 dX12_table_117 rfl rfl ?_
        obtain ⟨y_46, hy_46⟩ : ∃ z, J_10 b_2 (v_15.toNatClampNeg) = z := ⟨_, rfl⟩
        have f_47 : s_27.rn (v_15.toNatClampNeg) = y_46 := (congrFun (congrArg NR_.rn hs_27) _).symm.trans hy_46
        refine h_lald C K hb_2L hb_2k (v := y_46) (v_15.toNatClampNeg) (rfl) (ix_0 r_45 (by decide)) (ix_lt r_45 (by decide) hb_2n (by decide)) hy_46 dX12_table_118 ?_
        refine h_last C K hb_1L hb_1k (v_15.toNatClampNeg) (rfl) (ix_0 r_45 (by decide)) (ix_lt r_45 (by decide) hb_1n (by decide)) dX12_table_119 (fun J_48 hJ_48 => ?_)
        have hG_49 := fq_puta hG_13 hJ_48 (ro_a hb_1k (by decide) hb_1o hkx rfl) (by decide) (by decide)
        have hs_50 : MTq I_9 J_48 x b_6 = s_26 := by rw [hJ_48]; exact (mq_oJ wmqx (ro_a hb_1k (by decide) hb_1o hkx rfl) (by decide)).trans hs_26
        have hs_51 : NRq I_9 J_48 x b_4 b_2 = s_27 := by rw [hJ_48]; exact (nq_oJ wnqx (ro_a hb_1k (by decide) hb_1o hkx rfl) (by decide)).trans hs_27
        obtain ⟨x_52, hx_52, rx_52, tx_52⟩ := ex_add (y := 1) 1 13 r_45 rc_1 (by decide) (by decide) (by decide) (by decide)
        refine g_iinc C dX12_table_120 (k := 2) (v := x_52) rfl hx_52 (by decide) (lo2 := [(2, .int x_52), (0, .ref x), (1, .int v_14)]) rfl ?_
        refine g_goto C (tgt := 102) dX12_table_123 (by decide) ?_
        refine g_lo (is := [1, 2, 0]) (lo2 := [(0, .ref x), (1, .int v_14), (2, .int x_52)]) rfl ?_
        exact ih_102 I_9 J_48 hU_11 hF_12 hG_49 v_14 x_52 (rg_w rx_52 (by decide) (by decide)) zf v_17 (rv_17) zq_24 q_19 q_20 (by (try simp only [h_29, (nle h_29), hy_46, f_47, hx_52, if_true, if_false, mqM_tp, mqM_size, mqM_limit, mqM_to, mqM_frm, mqM_kind, mqM_number, mqM_sign, mqM_word, MT_.w_tp, MT_.w_size, MT_.w_limit, MT_.w_to, MT_.w_frm, MT_.w_kind, MT_.w_number, MT_.w_sign, MT_.w_word, nqM_rd, nqM_rn, nqM_taped, nqM_mfault, nqM_mplace, nqM_told, nqM_hl, nqM_hd, NR_.w_rd, NR_.w_rn, NR_.w_taped, NR_.w_mfault, NR_.w_mplace, NR_.w_told, NR_.w_hl, NR_.w_hd] at hQ_28); simp only [emqx, hs_50, hs_7, enqx, hs_51, hs_8, hQ_28, h_29, (nle h_29), hy_46, f_47, hx_52, if_true, if_false, mqM_tp, mqM_size, mqM_limit, mqM_to, mqM_frm, mqM_kind, mqM_number, mqM_sign, mqM_word, MT_.w_tp, MT_.w_size, MT_.w_limit, MT_.w_to, MT_.w_frm, MT_.w_kind, MT_.w_number, MT_.w_sign, MT_.w_word, nqM_rd, nqM_rn, nqM_taped, nqM_mfault, nqM_mplace, nqM_told, nqM_hl, nqM_hd, NR_.w_rd, NR_.w_rn, NR_.w_taped, NR_.w_mfault, NR_.w_mplace, NR_.w_told, NR_.w_hl, NR_.w_hd]) hd_22 (nx_c (nx_st nx_23 hb_1 hb_2 (nz_ro (ro_a hb_1k (by decide) hb_1o hkx rfl) (ro_a hb_2k (by decide) hb_2o hkx rfl) (by decide)) hJ_48 hy_46 rfl rfl) (show x_52.toNatClampNeg = v_15.toNatClampNeg + 1 from nx_a tx_52 r_45 rc_1 (by decide))) zq_24 (ms_1 hm_25 (ti_k tx_52 rc_1) (by decide))
  have l_40 : ∀ (n_40 : Nat) (I_53 : Nat → Nat → Int32) (J_54 : Nat → Nat → Int64) (hU_55 : Iw L κ R ow I_53) (hF_56 : Fq L κ ow [1200, 1202, 1203, 1204, 1205, 1206, 1207, 1208, 1209, 1210, 1211, 1213, 1223, 1224, 1225, 83400, 83500] I I_53) (hG_57 : Fq L κ ow [1212, 83900, 84000] J J_54) (v_58 : Int32) (q_59 : I_53 x 2 = 0) (hq_60 : (mtl n_40 v_58 ((MTq I_53 J_54 x b_6), (NRq I_53 J_54 x b_4 b_2))).1 = mTable s_7 s_8) (hq_61 : mtlB n_40 v_58 ((MTq I_53 J_54 x b_6), (NRq I_53 J_54 x b_4 b_2)) = mTableB s_7 s_8) (hq_62 : mtlN n_40 v_58 ((MTq I_53 J_54 x b_6), (NRq I_53 J_54 x b_4 b_2)) = mTableN s_7 s_8) (hq_63 : mtlF n_40 v_58 ((MTq I_53 J_54 x b_6), (NRq I_53 J_54 x b_4 b_2)) = mTableF s_7 s_8) (hd_64 : Hd_ R x I I_53) (nx_65 : Rj_ R x J J_54) (hm_66 : 940 < (I_53 x 5).toInt + (n_40 : Int)), WG p l e { frames := 7, cells := 0, slots := 0, locals := 154 } s m ([.ref x] : List Value).toArray below meth c 3 0 0 (MQ below (Qi_ D cy L κ ln R (fun r I2 J2 => Iw L κ R ow I2 ∧ Fq L κ ow [1200, 1202, 1203, 1204, 1205, 1206, 1207, 1208, 1209, 1210, 1211, 1213, 1223, 1224, 1225, 83400, 83500] I I2 ∧ Fq L κ ow [1212, 83900, 84000] J J2 ∧ Rg (-2147483648) 2147483647 r ∧ (r = mTable (MTf R I J x) (NRf R I J x)) ∧ ((mTableB (MTf R I J x) (NRf R I J x) = none ∧ Hd_ R x I I2) ∨ Nt_ R x I2 (mTableB (MTf R I J x) (NRf R I J x))) ∧ ((mTableN (MTf R I J x) (NRf R I J x) = none ∧ Rj_ R x J J2) ∨ Ny_ R x J2 (mTableN (MTf R I J x) (NRf R I J x))) ∧ (I2 x 10 = mTableF (MTf R I J x) (NRf R I J x)) ∧ ((I2 x 2) = 0))) ([.ref x] : List Value).toArray s 0 0 (Al_ L)) D cy (Al_ L) s.heap L κ ln R I_53 J_54 40 [(0, .ref x), (1, .int v_58)] [] := by
    intro n_40
    induction n_40 with
    | zero =>
      intro I_53 J_54 hU_55 hF_56 hG_57 v_58 q_59 hq_60 hq_61 hq_62 hq_63 hd_64 nx_65 hm_66
      exact absurd hm_66 (by obtain ⟨z, hz, rz⟩ := ex_getw (I := I_53) (a := x) (j := 5) (lo := 0) (hi := 940) hU_55.1 hLx (ro_o hkx (by decide)) rfl; rw [hz]; have := rz.2; omega)
    | succ n_40 ih_40 =>
      intro I_53 J_54 hU_55 hF_56 hG_57 v_58 q_59 hq_60 hq_61 hq_62 hq_63 hd_64 nx_65 hm_66
      obtain ⟨s_67, hs_67⟩ : ∃ z, MTq I_53 J_54 x b_6 = z := ⟨_, rfl⟩
      obtain ⟨s_68, hs_68⟩ : ∃ z, NRq I_53 J_54 x b_4 b_2 = z := ⟨_, rfl⟩
      simp only [hs_67, hs_68] at hq_60
      have hQ_69 := hq_60.symm
      simp only [hs_67, hs_68] at hq_61
      have hQ_70 := hq_61.symm
      simp only [hs_67, hs_68] at hq_62
      have hQ_71 := hq_62.symm
      simp only [hs_67, hs_68] at hq_63
      have hQ_72 := hq_63.symm
      have u_73 := mtl_eq (k := n_40) (i := v_58) (s := (s_67, s_68))
      have u_74 := mtlB_eq (k := n_40) (i := v_58) (s := (s_67, s_68))
      have u_75 := mtlN_eq (k := n_40) (i := v_58) (s := (s_67, s_68))
      have u_76 := mtlF_eq (k := n_40) (i := v_58) (s := (s_67, s_68))
      refine g_aload_n C 0 dX12_table_40 rfl rfl ?_
      obtain ⟨x_77, hx_77, rx_77⟩ := ex_getw (I := I_53) (a := x) (j := 7) (lo := 0) (hi := 4) hU_55.1 hLx (ro_o hkx (by decide)) rfl
      have f_78 : s_67.kind = x_77 := (congrArg MT_.kind hs_67).symm.trans hx_77
      refine g_getI C K hLx hkx f_12_104 (v := x_77) hx_77 dX12_table_41 ?_
      refine g_if_eq C (tgt := 74) dX12_table_44 (by decide) (fun h_79 => ?_) (fun h_79 => ?_)
      · skip
        have r_80 := (⟨(rx_77).1, (eq_rg (h_79) rc_0).2⟩ : Rg 0 0 x_77)
        obtain ⟨x_81, hx_81, rx_81⟩ := ex_getw (I := I_53) (a := x) (j := 10) (lo := (-2147483648)) (hi := 2147483647) hU_55.1 hLx (ro_o hkx (by decide)) rfl
        have f_82 : s_68.mfault = x_81 := (congrArg NR_.mfault hs_68).symm.trans hx_81
        have mf_83 : mTableF (MTf R I J x) (NRf R I J x) = x_81 := by (try simp only [hx_77, f_78, (eq_true h_79), hx_81, f_82, if_true, if_false, mqM_tp, mqM_size, mqM_limit, mqM_to, mqM_frm, mqM_kind, mqM_number, mqM_sign, mqM_word, MT_.w_tp, MT_.w_size, MT_.w_limit, MT_.w_to, MT_.w_frm, MT_.w_kind, MT_.w_number, MT_.w_sign, MT_.w_word, nqM_rd, nqM_rn, nqM_taped, nqM_mfault, nqM_mplace, nqM_told, nqM_hl, nqM_hd, NR_.w_rd, NR_.w_rn, NR_.w_taped, NR_.w_mfault, NR_.w_mplace, NR_.w_told, NR_.w_hl, NR_.w_hd] at hQ_69); (try simp only [hx_77, f_78, (eq_true h_79), hx_81, f_82, if_true, if_false, mqM_tp, mqM_size, mqM_limit, mqM_to, mqM_frm, mqM_kind, mqM_number, mqM_sign, mqM_word, MT_.w_tp, MT_.w_size, MT_.w_limit, MT_.w_to, MT_.w_frm, MT_.w_kind, MT_.w_number, MT_.w_sign, MT_.w_word, nqM_rd, nqM_rn, nqM_taped, nqM_mfault, nqM_mplace, nqM_told, nqM_hl, nqM_hd, NR_.w_rd, NR_.w_rn, NR_.w_taped, NR_.w_mfault, NR_.w_mplace, NR_.w_told, NR_.w_hl, NR_.w_hd] at hQ_70); (try simp only [hx_77, f_78, (eq_true h_79), hx_81, f_82, if_true, if_false, mqM_tp, mqM_size, mqM_limit, mqM_to, mqM_frm, mqM_kind, mqM_number, mqM_sign, mqM_word, MT_.w_tp, MT_.w_size, MT_.w_limit, MT_.w_to, MT_.w_frm, MT_.w_kind, MT_.w_number, MT_.w_sign, MT_.w_word, nqM_rd, nqM_rn, nqM_taped, nqM_mfault, nqM_mplace, nqM_told, nqM_hl, nqM_hd, NR_.w_rd, NR_.w_rn, NR_.w_taped, NR_.w_mfault, NR_.w_mplace, NR_.w_told, NR_.w_hl, NR_.w_hd] at hQ_71); (try simp only [hx_77, f_78, (eq_true h_79), hx_81, f_82, if_true, if_false, mqM_tp, mqM_size, mqM_limit, mqM_to, mqM_frm, mqM_kind, mqM_number, mqM_sign, mqM_word, MT_.w_tp, MT_.w_size, MT_.w_limit, MT_.w_to, MT_.w_frm, MT_.w_kind, MT_.w_number, MT_.w_sign, MT_.w_word, nqM_rd, nqM_rn, nqM_taped, nqM_mfault, nqM_mplace, nqM_told, nqM_hl, nqM_hd, NR_.w_rd, NR_.w_rn, NR_.w_taped, NR_.w_mfault, NR_.w_mplace, NR_.w_told, NR_.w_hl, NR_.w_hd] at hQ_72); (try simp only [hx_77, f_78, (eq_true h_79), hx_81, f_82, if_true, if_false, mqM_tp, mqM_size, mqM_limit, mqM_to, mqM_frm, mqM_kind, mqM_number, mqM_sign, mqM_word, MT_.w_tp, MT_.w_size, MT_.w_limit, MT_.w_to, MT_.w_frm, MT_.w_kind, MT_.w_number, MT_.w_sign, MT_.w_word, nqM_rd, nqM_rn, nqM_taped, nqM_mfault, nqM_mplace, nqM_told, nqM_hl, nqM_hd, NR_.w_rd, NR_.w_rn, NR_.w_taped, NR_.w_mfault, NR_.w_mplace, NR_.w_told, NR_.w_hl, NR_.w_hd] at u_73); (try simp only [hx_77, f_78, (eq_true h_79), hx_81, f_82, if_true, if_false, mqM_tp, mqM_size, mqM_limit, mqM_to, mqM_frm, mqM_kind, mqM_number, mqM_sign, mqM_word, MT_.w_tp, MT_.w_size, MT_.w_limit, MT_.w_to, MT_.w_frm, MT_.w_kind, MT_.w_number, MT_.w_sign, MT_.w_word, nqM_rd, nqM_rn, nqM_taped, nqM_mfault, nqM_mplace, nqM_told, nqM_hl, nqM_hd, NR_.w_rd, NR_.w_rn, NR_.w_taped, NR_.w_mfault, NR_.w_mplace, NR_.w_told, NR_.w_hl, NR_.w_hd] at u_74); (try simp only [hx_77, f_78, (eq_true h_79), hx_81, f_82, if_true, if_false, mqM_tp, mqM_size, mqM_limit, mqM_to, mqM_frm, mqM_kind, mqM_number, mqM_sign, mqM_word, MT_.w_tp, MT_.w_size, MT_.w_limit, MT_.w_to, MT_.w_frm, MT_.w_kind, MT_.w_number, MT_.w_sign, MT_.w_word, nqM_rd, nqM_rn, nqM_taped, nqM_mfault, nqM_mplace, nqM_told, nqM_hl, nqM_hd, NR_.w_rd, NR_.w_rn, NR_.w_taped, NR_.w_mfault, NR_.w_mplace, NR_.w_told, NR_.w_hl, NR_.w_hd] at u_75); (try simp only [hx_77, f_78, (eq_true h_79), hx_81, f_82, if_true, if_false, mqM_tp, mqM_size, mqM_limit, mqM_to, mqM_frm, mqM_kind, mqM_number, mqM_sign, mqM_word, MT_.w_tp, MT_.w_size, MT_.w_limit, MT_.w_to, MT_.w_frm, MT_.w_kind, MT_.w_number, MT_.w_sign, MT_.w_word, nqM_rd, nqM_rn, nqM_taped, nqM_mfault, nqM_mplace, nqM_told, nqM_hl, nqM_hd, NR_.w_rd, NR_.w_rn, NR_.w_taped, NR_.w_mfault, NR_.w_mplace, NR_.w_told, NR_.w_hl, NR_.w_hd] at u_76); simp only [emqx, hs_67, hs_7, enqx, hs_68, hs_8, hQ_69, hQ_70, hQ_71, hQ_72, u_73, u_74, u_75, u_76, hx_77, f_78, (eq_true h_79), hx_81, f_82, if_true, if_false, mqM_tp, mqM_size, mqM_limit, mqM_to, mqM_frm, mqM_kind, mqM_number, mqM_sign, mqM_word, MT_.w_tp, MT_.w_size, MT_.w_limit, MT_.w_to, MT_.w_frm, MT_.w_kind, MT_.w_number, MT_.w_sign, MT_.w_word, nqM_rd, nqM_rn, nqM_taped, nqM_mfault, nqM_mplace, nqM_told, nqM_hl, nqM_hd, NR_.w_rd, NR_.w_rn, NR_.w_taped, NR_.w_mfault, NR_.w_mplace, NR_.w_told, NR_.w_hl, NR_.w_hd]
        have tb_84 : mTableN (MTf R I J x) (NRf R I J x) = some (s_68.rn) := by (try simp only [hx_77, f_78, (eq_true h_79), hx_81, f_82, if_true, if_false, mqM_tp, mqM_size, mqM_limit, mqM_to, mqM_frm, mqM_kind, mqM_number, mqM_sign, mqM_word, MT_.w_tp, MT_.w_size, MT_.w_limit, MT_.w_to, MT_.w_frm, MT_.w_kind, MT_.w_number, MT_.w_sign, MT_.w_word, nqM_rd, nqM_rn, nqM_taped, nqM_mfault, nqM_mplace, nqM_told, nqM_hl, nqM_hd, NR_.w_rd, NR_.w_rn, NR_.w_taped, NR_.w_mfault, NR_.w_mplace, NR_.w_told, NR_.w_hl, NR_.w_hd] at hQ_69); (try simp only [hx_77, f_78, (eq_true h_79), hx_81, f_82, if_true, if_false, mqM_tp, mqM_size, mqM_limit, mqM_to, mqM_frm, mqM_kind, mqM_number, mqM_sign, mqM_word, MT_.w_tp, MT_.w_size, MT_.w_limit, MT_.w_to, MT_.w_frm, MT_.w_kind, MT_.w_number, MT_.w_sign, MT_.w_word, nqM_rd, nqM_rn, nqM_taped, nqM_mfault, nqM_mplace, nqM_told, nqM_hl, nqM_hd, NR_.w_rd, NR_.w_rn, NR_.w_taped, NR_.w_mfault, NR_.w_mplace, NR_.w_told, NR_.w_hl, NR_.w_hd] at hQ_70); (try simp only [hx_77, f_78, (eq_true h_79), hx_81, f_82, if_true, if_false, mqM_tp, mqM_size, mqM_limit, mqM_to, mqM_frm, mqM_kind, mqM_number, mqM_sign, mqM_word, MT_.w_tp, MT_.w_size, MT_.w_limit, MT_.w_to, MT_.w_frm, MT_.w_kind, MT_.w_number, MT_.w_sign, MT_.w_word, nqM_rd, nqM_rn, nqM_taped, nqM_mfault, nqM_mplace, nqM_told, nqM_hl, nqM_hd, NR_.w_rd, NR_.w_rn, NR_.w_taped, NR_.w_mfault, NR_.w_mplace, NR_.w_told, NR_.w_hl, NR_.w_hd] at hQ_71); (try simp only [hx_77, f_78, (eq_true h_79), hx_81, f_82, if_true, if_false, mqM_tp, mqM_size, mqM_limit, mqM_to, mqM_frm, mqM_kind, mqM_number, mqM_sign, mqM_word, MT_.w_tp, MT_.w_size, MT_.w_limit, MT_.w_to, MT_.w_frm, MT_.w_kind, MT_.w_number, MT_.w_sign, MT_.w_word, nqM_rd, nqM_rn, nqM_taped, nqM_mfault, nqM_mplace, nqM_told, nqM_hl, nqM_hd, NR_.w_rd, NR_.w_rn, NR_.w_taped, NR_.w_mfault, NR_.w_mplace, NR_.w_told, NR_.w_hl, NR_.w_hd] at hQ_72); (try simp only [hx_77, f_78, (eq_true h_79), hx_81, f_82, if_true, if_false, mqM_tp, mqM_size, mqM_limit, mqM_to, mqM_frm, mqM_kind, mqM_number, mqM_sign, mqM_word, MT_.w_tp, MT_.w_size, MT_.w_limit, MT_.w_to, MT_.w_frm, MT_.w_kind, MT_.w_number, MT_.w_sign, MT_.w_word, nqM_rd, nqM_rn, nqM_taped, nqM_mfault, nqM_mplace, nqM_told, nqM_hl, nqM_hd, NR_.w_rd, NR_.w_rn, NR_.w_taped, NR_.w_mfault, NR_.w_mplace, NR_.w_told, NR_.w_hl, NR_.w_hd] at u_73); (try simp only [hx_77, f_78, (eq_true h_79), hx_81, f_82, if_true, if_false, mqM_tp, mqM_size, mqM_limit, mqM_to, mqM_frm, mqM_kind, mqM_number, mqM_sign, mqM_word, MT_.w_tp, MT_.w_size, MT_.w_limit, MT_.w_to, MT_.w_frm, MT_.w_kind, MT_.w_number, MT_.w_sign, MT_.w_word, nqM_rd, nqM_rn, nqM_taped, nqM_mfault, nqM_mplace, nqM_told, nqM_hl, nqM_hd, NR_.w_rd, NR_.w_rn, NR_.w_taped, NR_.w_mfault, NR_.w_mplace, NR_.w_told, NR_.w_hl, NR_.w_hd] at u_74); (try simp only [hx_77, f_78, (eq_true h_79), hx_81, f_82, if_true, if_false, mqM_tp, mqM_size, mqM_limit, mqM_to, mqM_frm, mqM_kind, mqM_number, mqM_sign, mqM_word, MT_.w_tp, MT_.w_size, MT_.w_limit, MT_.w_to, MT_.w_frm, MT_.w_kind, MT_.w_number, MT_.w_sign, MT_.w_word, nqM_rd, nqM_rn, nqM_taped, nqM_mfault, nqM_mplace, nqM_told, nqM_hl, nqM_hd, NR_.w_rd, NR_.w_rn, NR_.w_taped, NR_.w_mfault, NR_.w_mplace, NR_.w_told, NR_.w_hl, NR_.w_hd] at u_75); (try simp only [hx_77, f_78, (eq_true h_79), hx_81, f_82, if_true, if_false, mqM_tp, mqM_size, mqM_limit, mqM_to, mqM_frm, mqM_kind, mqM_number, mqM_sign, mqM_word, MT_.w_tp, MT_.w_size, MT_.w_limit, MT_.w_to, MT_.w_frm, MT_.w_kind, MT_.w_number, MT_.w_sign, MT_.w_word, nqM_rd, nqM_rn, nqM_taped, nqM_mfault, nqM_mplace, nqM_told, nqM_hl, nqM_hd, NR_.w_rd, NR_.w_rn, NR_.w_taped, NR_.w_mfault, NR_.w_mplace, NR_.w_told, NR_.w_hl, NR_.w_hd] at u_76); simp only [emqx, hs_67, hs_7, enqx, hs_68, hs_8, hQ_69, hQ_70, hQ_71, hQ_72, u_73, u_74, u_75, u_76, hx_77, f_78, (eq_true h_79), hx_81, f_82, if_true, if_false, mqM_tp, mqM_size, mqM_limit, mqM_to, mqM_frm, mqM_kind, mqM_number, mqM_sign, mqM_word, MT_.w_tp, MT_.w_size, MT_.w_limit, MT_.w_to, MT_.w_frm, MT_.w_kind, MT_.w_number, MT_.w_sign, MT_.w_word, nqM_rd, nqM_rn, nqM_taped, nqM_mfault, nqM_mplace, nqM_told, nqM_hl, nqM_hd, NR_.w_rd, NR_.w_rn, NR_.w_taped, NR_.w_mfault, NR_.w_mplace, NR_.w_told, NR_.w_hl, NR_.w_hd]
        have rnj_85 : ∀ j, J_54 b_2 j = (s_68.rn) j := fun j => congrFun (congrArg NR_.rn hs_68) j
        have tb_86 : mTableB (MTf R I J x) (NRf R I J x) = some (s_68.rd) := by (try simp only [hx_77, f_78, (eq_true h_79), hx_81, f_82, if_true, if_false, mqM_tp, mqM_size, mqM_limit, mqM_to, mqM_frm, mqM_kind, mqM_number, mqM_sign, mqM_word, MT_.w_tp, MT_.w_size, MT_.w_limit, MT_.w_to, MT_.w_frm, MT_.w_kind, MT_.w_number, MT_.w_sign, MT_.w_word, nqM_rd, nqM_rn, nqM_taped, nqM_mfault, nqM_mplace, nqM_told, nqM_hl, nqM_hd, NR_.w_rd, NR_.w_rn, NR_.w_taped, NR_.w_mfault, NR_.w_mplace, NR_.w_told, NR_.w_hl, NR_.w_hd] at hQ_69); (try simp only [hx_77, f_78, (eq_true h_79), hx_81, f_82, if_true, if_false, mqM_tp, mqM_size, mqM_limit, mqM_to, mqM_frm, mqM_kind, mqM_number, mqM_sign, mqM_word, MT_.w_tp, MT_.w_size, MT_.w_limit, MT_.w_to, MT_.w_frm, MT_.w_kind, MT_.w_number, MT_.w_sign, MT_.w_word, nqM_rd, nqM_rn, nqM_taped, nqM_mfault, nqM_mplace, nqM_told, nqM_hl, nqM_hd, NR_.w_rd, NR_.w_rn, NR_.w_taped, NR_.w_mfault, NR_.w_mplace, NR_.w_told, NR_.w_hl, NR_.w_hd] at hQ_70); (try simp only [hx_77, f_78, (eq_true h_79), hx_81, f_82, if_true, if_false, mqM_tp, mqM_size, mqM_limit, mqM_to, mqM_frm, mqM_kind, mqM_number, mqM_sign, mqM_word, MT_.w_tp, MT_.w_size, MT_.w_limit, MT_.w_to, MT_.w_frm, MT_.w_kind, MT_.w_number, MT_.w_sign, MT_.w_word, nqM_rd, nqM_rn, nqM_taped, nqM_mfault, nqM_mplace, nqM_told, nqM_hl, nqM_hd, NR_.w_rd, NR_.w_rn, NR_.w_taped, NR_.w_mfault, NR_.w_mplace, NR_.w_told, NR_.w_hl, NR_.w_hd] at hQ_71); (try simp only [hx_77, f_78, (eq_true h_79), hx_81, f_82, if_true, if_false, mqM_tp, mqM_size, mqM_limit, mqM_to, mqM_frm, mqM_kind, mqM_number, mqM_sign, mqM_word, MT_.w_tp, MT_.w_size, MT_.w_limit, MT_.w_to, MT_.w_frm, MT_.w_kind, MT_.w_number, MT_.w_sign, MT_.w_word, nqM_rd, nqM_rn, nqM_taped, nqM_mfault, nqM_mplace, nqM_told, nqM_hl, nqM_hd, NR_.w_rd, NR_.w_rn, NR_.w_taped, NR_.w_mfault, NR_.w_mplace, NR_.w_told, NR_.w_hl, NR_.w_hd] at hQ_72); (try simp only [hx_77, f_78, (eq_true h_79), hx_81, f_82, if_true, if_false, mqM_tp, mqM_size, mqM_limit, mqM_to, mqM_frm, mqM_kind, mqM_number, mqM_sign, mqM_word, MT_.w_tp, MT_.w_size, MT_.w_limit, MT_.w_to, MT_.w_frm, MT_.w_kind, MT_.w_number, MT_.w_sign, MT_.w_word, nqM_rd, nqM_rn, nqM_taped, nqM_mfault, nqM_mplace, nqM_told, nqM_hl, nqM_hd, NR_.w_rd, NR_.w_rn, NR_.w_taped, NR_.w_mfault, NR_.w_mplace, NR_.w_told, NR_.w_hl, NR_.w_hd] at u_73); (try simp only [hx_77, f_78, (eq_true h_79), hx_81, f_82, if_true, if_false, mqM_tp, mqM_size, mqM_limit, mqM_to, mqM_frm, mqM_kind, mqM_number, mqM_sign, mqM_word, MT_.w_tp, MT_.w_size, MT_.w_limit, MT_.w_to, MT_.w_frm, MT_.w_kind, MT_.w_number, MT_.w_sign, MT_.w_word, nqM_rd, nqM_rn, nqM_taped, nqM_mfault, nqM_mplace, nqM_told, nqM_hl, nqM_hd, NR_.w_rd, NR_.w_rn, NR_.w_taped, NR_.w_mfault, NR_.w_mplace, NR_.w_told, NR_.w_hl, NR_.w_hd] at u_74); (try simp only [hx_77, f_78, (eq_true h_79), hx_81, f_82, if_true, if_false, mqM_tp, mqM_size, mqM_limit, mqM_to, mqM_frm, mqM_kind, mqM_number, mqM_sign, mqM_word, MT_.w_tp, MT_.w_size, MT_.w_limit, MT_.w_to, MT_.w_frm, MT_.w_kind, MT_.w_number, MT_.w_sign, MT_.w_word, nqM_rd, nqM_rn, nqM_taped, nqM_mfault, nqM_mplace, nqM_told, nqM_hl, nqM_hd, NR_.w_rd, NR_.w_rn, NR_.w_taped, NR_.w_mfault, NR_.w_mplace, NR_.w_told, NR_.w_hl, NR_.w_hd] at u_75); (try simp only [hx_77, f_78, (eq_true h_79), hx_81, f_82, if_true, if_false, mqM_tp, mqM_size, mqM_limit, mqM_to, mqM_frm, mqM_kind, mqM_number, mqM_sign, mqM_word, MT_.w_tp, MT_.w_size, MT_.w_limit, MT_.w_to, MT_.w_frm, MT_.w_kind, MT_.w_number, MT_.w_sign, MT_.w_word, nqM_rd, nqM_rn, nqM_taped, nqM_mfault, nqM_mplace, nqM_told, nqM_hl, nqM_hd, NR_.w_rd, NR_.w_rn, NR_.w_taped, NR_.w_mfault, NR_.w_mplace, NR_.w_told, NR_.w_hl, NR_.w_hd] at u_76); simp only [emqx, hs_67, hs_7, enqx, hs_68, hs_8, hQ_69, hQ_70, hQ_71, hQ_72, u_73, u_74, u_75, u_76, hx_77, f_78, (eq_true h_79), hx_81, f_82, if_true, if_false, mqM_tp, mqM_size, mqM_limit, mqM_to, mqM_frm, mqM_kind, mqM_number, mqM_sign, mqM_word, MT_.w_tp, MT_.w_size, MT_.w_limit, MT_.w_to, MT_.w_frm, MT_.w_kind, MT_.w_number, MT_.w_sign, MT_.w_word, nqM_rd, nqM_rn, nqM_taped, nqM_mfault, nqM_mplace, nqM_told, nqM_hl, nqM_hd, NR_.w_rd, NR_.w_rn, NR_.w_taped, NR_.w_mfault, NR_.w_mplace, NR_.w_told, NR_.w_hl, NR_.w_hd]
        have rdj_87 : ∀ j, I_53 b_4 j = (s_68.rd) j := fun j => congrFun (congrArg NR_.rd hs_68) j
        refine g_iconst C (v := 0) dX12_table_74 (by decide) ?_
        refine g_istore_n C dX12_table_75 rfl (by decide) (lo2 := [(2, .int 0), (0, .ref x), (1, .int v_58)]) rfl ?_
        refine g_lo (is := [1, 2, 0]) (lo2 := [(0, .ref x), (1, .int v_58), (2, .int 0)]) rfl ?_
        have ex_76 : ∀ (I_89 : Nat → Nat → Int32) (hI_89 : I_89 = cpn_ I_53 b_4 b_5 (0) (0) 72) (v_88 : Int32) (rv_88 : Rg 72 72 v_88), WG p l e { frames := 7, cells := 0, slots := 0, locals := 154 } s m ([.ref x] : List Value).toArray below meth c 3 0 0 (MQ below (Qi_ D cy L κ ln R (fun r I2 J2 => Iw L κ R ow I2 ∧ Fq L κ ow [1200, 1202, 1203, 1204, 1205, 1206, 1207, 1208, 1209, 1210, 1211, 1213, 1223, 1224, 1225, 83400, 83500] I I2 ∧ Fq L κ ow [1212, 83900, 84000] J J2 ∧ Rg (-2147483648) 2147483647 r ∧ (r = mTable (MTf R I J x) (NRf R I J x)) ∧ ((mTableB (MTf R I J x) (NRf R I J x) = none ∧ Hd_ R x I I2) ∨ Nt_ R x I2 (mTableB (MTf R I J x) (NRf R I J x))) ∧ ((mTableN (MTf R I J x) (NRf R I J x) = none ∧ Rj_ R x J J2) ∨ Ny_ R x J2 (mTableN (MTf R I J x) (NRf R I J x))) ∧ (I2 x 10 = mTableF (MTf R I J x) (NRf R I J x)) ∧ ((I2 x 2) = 0))) ([.ref x] : List Value).toArray s 0 0 (Al_ L)) D cy (Al_ L) s.heap L κ ln R I_89 J_54 100 [(0, .ref x), (1, .int v_58), (2, .int v_88)] [] := by
          intro I_89 hI_89 v_88 rv_88
          have hF_90 := fq_cpn hF_56 hI_89 (ro_a hb_5k (by decide) hb_5o hkx rfl) (by decide) (by decide)
          have hU_91 := uw_cpn hU_55.1 hb_4L hI_89 (ro_a hb_5k (by decide) hb_5o hkx rfl) (ro_a hb_4k (by decide) hb_4o hkx rfl) (fun i _ => by rw [bn_834, bn_835]; exact ⟨Int.le_refl _, Int.le_refl _⟩)
          have hU_92 := iw_hd W9 hU_55 hU_91 hLx hkx hb_5 hI_89
          refine g_iconst C (v := 0) dX12_table_100 (by decide) ?_
          refine g_istore_n C dX12_table_101 rfl (by decide) (lo2 := [(2, .int 0), (0, .ref x), (1, .int v_58)]) rfl ?_
          refine g_lo (is := [1, 2, 0]) (lo2 := [(0, .ref x), (1, .int v_58), (2, .int 0)]) rfl ?_
          exact l_102 14 I_89 J_54 hU_92 hF_90 hG_57 v_58 0 (rg_w rc_0 (by decide) (by decide)) x_81 x_77 (r_80) (kp_cn (κ := κ) hI_89 (by rw [hkx, hb_5k]; decide) hx_81) (kp_cn (κ := κ) hI_89 (by rw [hkx, hb_5k]; decide) q_59) (kp_cn (κ := κ) hI_89 (by rw [hkx, hb_5k]; decide) hx_77) (by (try simp only [hx_77, f_78, (eq_true h_79), hx_81, f_82, if_true, if_false, mqM_tp, mqM_size, mqM_limit, mqM_to, mqM_frm, mqM_kind, mqM_number, mqM_sign, mqM_word, MT_.w_tp, MT_.w_size, MT_.w_limit, MT_.w_to, MT_.w_frm, MT_.w_kind, MT_.w_number, MT_.w_sign, MT_.w_word, nqM_rd, nqM_rn, nqM_taped, nqM_mfault, nqM_mplace, nqM_told, nqM_hl, nqM_hd, NR_.w_rd, NR_.w_rn, NR_.w_taped, NR_.w_mfault, NR_.w_mplace, NR_.w_told, NR_.w_hl, NR_.w_hd] at hQ_69); (try simp only [hx_77, f_78, (eq_true h_79), hx_81, f_82, if_true, if_false, mqM_tp, mqM_size, mqM_limit, mqM_to, mqM_frm, mqM_kind, mqM_number, mqM_sign, mqM_word, MT_.w_tp, MT_.w_size, MT_.w_limit, MT_.w_to, MT_.w_frm, MT_.w_kind, MT_.w_number, MT_.w_sign, MT_.w_word, nqM_rd, nqM_rn, nqM_taped, nqM_mfault, nqM_mplace, nqM_told, nqM_hl, nqM_hd, NR_.w_rd, NR_.w_rn, NR_.w_taped, NR_.w_mfault, NR_.w_mplace, NR_.w_told, NR_.w_hl, NR_.w_hd] at hQ_70); (try simp only [hx_77, f_78, (eq_true h_79), hx_81, f_82, if_true, if_false, mqM_tp, mqM_size, mqM_limit, mqM_to, mqM_frm, mqM_kind, mqM_number, mqM_sign, mqM_word, MT_.w_tp, MT_.w_size, MT_.w_limit, MT_.w_to, MT_.w_frm, MT_.w_kind, MT_.w_number, MT_.w_sign, MT_.w_word, nqM_rd, nqM_rn, nqM_taped, nqM_mfault, nqM_mplace, nqM_told, nqM_hl, nqM_hd, NR_.w_rd, NR_.w_rn, NR_.w_taped, NR_.w_mfault, NR_.w_mplace, NR_.w_told, NR_.w_hl, NR_.w_hd] at hQ_71); (try simp only [hx_77, f_78, (eq_true h_79), hx_81, f_82, if_true, if_false, mqM_tp, mqM_size, mqM_limit, mqM_to, mqM_frm, mqM_kind, mqM_number, mqM_sign, mqM_word, MT_.w_tp, MT_.w_size, MT_.w_limit, MT_.w_to, MT_.w_frm, MT_.w_kind, MT_.w_number, MT_.w_sign, MT_.w_word, nqM_rd, nqM_rn, nqM_taped, nqM_mfault, nqM_mplace, nqM_told, nqM_hl, nqM_hd, NR_.w_rd, NR_.w_rn, NR_.w_taped, NR_.w_mfault, NR_.w_mplace, NR_.w_told, NR_.w_hl, NR_.w_hd] at hQ_72); (try simp only [hx_77, f_78, (eq_true h_79), hx_81, f_82, if_true, if_false, mqM_tp, mqM_size, mqM_limit, mqM_to, mqM_frm, mqM_kind, mqM_number, mqM_sign, mqM_word, MT_.w_tp, MT_.w_size, MT_.w_limit, MT_.w_to, MT_.w_frm, MT_.w_kind, MT_.w_number, MT_.w_sign, MT_.w_word, nqM_rd, nqM_rn, nqM_taped, nqM_mfault, nqM_mplace, nqM_told, nqM_hl, nqM_hd, NR_.w_rd, NR_.w_rn, NR_.w_taped, NR_.w_mfault, NR_.w_mplace, NR_.w_told, NR_.w_hl, NR_.w_hd] at u_73); (try simp only [hx_77, f_78, (eq_true h_79), hx_81, f_82, if_true, if_false, mqM_tp, mqM_size, mqM_limit, mqM_to, mqM_frm, mqM_kind, mqM_number, mqM_sign, mqM_word, MT_.w_tp, MT_.w_size, MT_.w_limit, MT_.w_to, MT_.w_frm, MT_.w_kind, MT_.w_number, MT_.w_sign, MT_.w_word, nqM_rd, nqM_rn, nqM_taped, nqM_mfault, nqM_mplace, nqM_told, nqM_hl, nqM_hd, NR_.w_rd, NR_.w_rn, NR_.w_taped, NR_.w_mfault, NR_.w_mplace, NR_.w_told, NR_.w_hl, NR_.w_hd] at u_74); (try simp only [hx_77, f_78, (eq_true h_79), hx_81, f_82, if_true, if_false, mqM_tp, mqM_size, mqM_limit, mqM_to, mqM_frm, mqM_kind, mqM_number, mqM_sign, mqM_word, MT_.w_tp, MT_.w_size, MT_.w_limit, MT_.w_to, MT_.w_frm, MT_.w_kind, MT_.w_number, MT_.w_sign, MT_.w_word, nqM_rd, nqM_rn, nqM_taped, nqM_mfault, nqM_mplace, nqM_told, nqM_hl, nqM_hd, NR_.w_rd, NR_.w_rn, NR_.w_taped, NR_.w_mfault, NR_.w_mplace, NR_.w_told, NR_.w_hl, NR_.w_hd] at u_75); (try simp only [hx_77, f_78, (eq_true h_79), hx_81, f_82, if_true, if_false, mqM_tp, mqM_size, mqM_limit, mqM_to, mqM_frm, mqM_kind, mqM_number, mqM_sign, mqM_word, MT_.w_tp, MT_.w_size, MT_.w_limit, MT_.w_to, MT_.w_frm, MT_.w_kind, MT_.w_number, MT_.w_sign, MT_.w_word, nqM_rd, nqM_rn, nqM_taped, nqM_mfault, nqM_mplace, nqM_told, nqM_hl, nqM_hd, NR_.w_rd, NR_.w_rn, NR_.w_taped, NR_.w_mfault, NR_.w_mplace, NR_.w_told, NR_.w_hl, NR_.w_hd] at u_76); simp only [emqx, hs_7, enqx, hs_8, hQ_69, hQ_70, hQ_71, hQ_72, u_73, u_74, u_75, u_76, hx_77, f_78, (eq_true h_79), hx_81, f_82, if_true, if_false, mqM_tp, mqM_size, mqM_limit, mqM_to, mqM_frm, mqM_kind, mqM_number, mqM_sign, mqM_word, MT_.w_tp, MT_.w_size, MT_.w_limit, MT_.w_to, MT_.w_frm, MT_.w_kind, MT_.w_number, MT_.w_sign, MT_.w_word, nqM_rd, nqM_rn, nqM_taped, nqM_mfault, nqM_mplace, nqM_told, nqM_hl, nqM_hd, NR_.w_rd, NR_.w_rn, NR_.w_taped, NR_.w_mfault, NR_.w_mplace, NR_.w_told, NR_.w_hl, NR_.w_hd]) (nt_new tb_86 hb_5 rdj_87 hI_89) (nx_0 (by decide) tb_84 hb_2 rnj_85) (Eq.trans (kp_cn (κ := κ) hI_89 (by rw [hkx, hb_5k]; decide) hx_81) (mf_83.symm.trans hzf)) (ms_s (a := 0) (b := 13) (N := 14) (rg_w rc_0 (by decide) (by decide)) (by decide))
        have l_76 : ∀ (m_76 : Nat) (v_93 : Int32) (I_94 : Nat → Nat → Int32), v_93.toInt + (m_76 : Int) = 72 → 0 ≤ v_93.toInt → I_94 = cpn_ I_53 b_4 b_5 (0) (0) v_93.toNatClampNeg → WG p l e { frames := 7, cells := 0, slots := 0, locals := 154 } s m ([.ref x] : List Value).toArray below meth c 3 0 0 (MQ below (Qi_ D cy L κ ln R (fun r I2 J2 => Iw L κ R ow I2 ∧ Fq L κ ow [1200, 1202, 1203, 1204, 1205, 1206, 1207, 1208, 1209, 1210, 1211, 1213, 1223, 1224, 1225, 83400, 83500] I I2 ∧ Fq L κ ow [1212, 83900, 84000] J J2 ∧ Rg (-2147483648) 2147483647 r ∧ (r = mTable (MTf R I J x) (NRf R I J x)) ∧ ((mTableB (MTf R I J x) (NRf R I J x) = none ∧ Hd_ R x I I2) ∨ Nt_ R x I2 (mTableB (MTf R I J x) (NRf R I J x))) ∧ ((mTableN (MTf R I J x) (NRf R I J x) = none ∧ Rj_ R x J J2) ∨ Ny_ R x J2 (mTableN (MTf R I J x) (NRf R I J x))) ∧ (I2 x 10 = mTableF (MTf R I J x) (NRf R I J x)) ∧ ((I2 x 2) = 0))) ([.ref x] : List Value).toArray s 0 0 (Al_ L)) D cy (Al_ L) s.heap L κ ln R I_94 J_54 76 [(0, .ref x), (1, .int v_58), (2, .int v_93)] [] := by
          intro m_76
          induction m_76 with
          | zero =>
            intro v_93 I_94 hk_76 h0_76 hI_94
            have rv_93 : Rg 72 72 v_93 := by unfold Rg; omega
            refine g_iload_n C 2 dX12_table_76 rfl rfl ?_
            refine g_bipush C (v := 72) dX12_table_77 (by decide) ?_
            refine g_icmp_ge C (tgt := 100) dX12_table_79 (by decide) (fun h_95 => ?_) (fun h_95 => ?_)
            · skip
              refine g_lo (is := [0, 1, 2]) (lo2 := [(0, .ref x), (1, .int v_58), (2, .int v_93)]) rfl ?_
              exact ex_76 I_94 (hI_94.trans (congrArg (fun q => cpn_ I_53 b_4 b_5 (0) (0) q) (show v_93.toNatClampNeg = 72 from by have := ix_n rv_93 (by decide); have := rv_93.1; have := rv_93.2; omega))) v_93 rv_93
            · skip
              have r_96 := lt_l (hi := 71) (nle h_95) rv_93 rc_72 (by decide)
              exact rg_no r_96 (by decide)
          | succ m_76 ih_76 =>
            intro v_93 I_94 hk_76 h0_76 hI_94
            have rv_93 : Rg 0 71 v_93 := by unfold Rg; omega
            refine g_iload_n C 2 dX12_table_76 rfl rfl ?_
            refine g_bipush C (v := 72) dX12_table_77 (by decide) ?_
            refine g_icmp_ge C (tgt := 100) dX12_table_79 (by decide) (fun h_97 => ?_) (fun h_97 => ?_)
            · skip
              have r_98 := le_r (h_97) rc_72 rv_93
              exact rg_no r_98 (by decide)
            · skip
              refine g_aload_n C 0 dX12_table_82 rfl rfl ?_
              refine g_getR C K hLx hkx f_12_13 hb_5 dX12_table_83 ?_
              refine g_iload_n C 2 dX12_table_86 rfl rfl ?_
              refine g_aload_n C 0 dX12_table_87 rfl rfl ?_
              refine g_getR C K hLx hkx f_12_16 hb_4 dX12_table_88 ?_
              refine g_iload_n C 2 dX12_table_91 rfl rfl ?_
              obtain ⟨x_99, hx_99, rx_99⟩ := ex_any (z0 := I_94 b_4 (v_93.toNatClampNeg))
              refine h_iald C K hb_4L hb_4k (v := x_99) (v_93.toNatClampNeg) (rfl) (ix_0 rv_93 (by decide)) (ix_lt rv_93 (by decide) hb_4n (by decide)) hx_99 dX12_table_92 ?_
              refine h_iast C K hb_5L hb_5k (v_93.toNatClampNeg) (rfl) (ix_0 rv_93 (by decide)) (ix_lt rv_93 (by decide) hb_5n (by decide)) dX12_table_93 (fun I_100 hI_100 => ?_)
              obtain ⟨x_101, hx_101, rx_101, tx_101⟩ := ex_add (y := 1) 1 72 rv_93 rc_1 (by decide) (by decide) (by decide) (by decide)
              refine g_iinc C dX12_table_94 (k := 2) (v := x_101) rfl hx_101 (by decide) (lo2 := [(2, .int x_101), (0, .ref x), (1, .int v_58)]) rfl ?_
              refine g_goto C (tgt := 76) dX12_table_97 (by decide) ?_
              refine g_lo (is := [1, 2, 0]) (lo2 := [(0, .ref x), (1, .int v_58), (2, .int x_101)]) rfl ?_
              have kk_76 : x_101.toNatClampNeg = v_93.toNatClampNeg + 1 := by have q1 := ix_n rv_93 (by decide); have q2 := (ti_k tx_101 rc_1); have q3 : x_101.toNatClampNeg = x_101.toInt.toNat := rfl; omega
              exact ih_76 x_101 I_100 (by have := (ti_k tx_101 rc_1); omega) (by have := (ti_k tx_101 rc_1); omega) (by rw [kk_76]; exact cpn_s hI_94 hx_99 hI_100 (show v_93.toNatClampNeg = (0) + v_93.toNatClampNeg from by omega) (show v_93.toNatClampNeg = (0) + v_93.toNatClampNeg from by omega) (Or.inl (ne_ro (ro_a hb_4k (by decide) hb_4o hkx rfl) (ro_a hb_5k (by decide) hb_5o hkx rfl) (by decide))))
        exact l_76 72 0 I_53 (by decide) (by decide) cpn_0
      · skip
        have n_102 : ¬ x_77 = 0 := h_79
        have r_103 := ne_lo (lo := 1) n_102 rx_77 rc_0 rfl (by decide)
        refine g_aload_n C 0 dX12_table_47 rfl rfl ?_
        refine g_callVI C K (c_X12_readLine W9 hLx hkx   hU_55) hLx hkx (by decide) rfl v_12_219 rfl ⟨rfl, rfl⟩ ⟨Nat.le_of_ble_eq_true rfl, Nat.le_of_ble_eq_true rfl⟩ (Nat.le_of_ble_eq_true rfl) ⟨Nat.le_of_ble_eq_true rfl, Nat.le_of_ble_eq_true rfl⟩ dX12_table_48 rfl (st := []) (fun x_104 I_105 J_106 h_107 => ?_)
        obtain ⟨hUI_105, hFI_105, hGJ_106, rx_104, fx_104, ex_104⟩ := h_107
        have hF_108 := fq_tr hF_56 hFI_105 (by decide)
        have hG_109 := fq_tr hG_57 hGJ_106 (by decide)
        obtain ⟨s_111, hs_111⟩ : ∃ z, MTq I_105 J_106 x b_6 = z := ⟨_, rfl⟩
        obtain ⟨s_112, hs_112⟩ : ∃ z, NRq I_105 J_106 x b_4 b_2 = z := ⟨_, rfl⟩
        have c_110 : mReadLine (s_67) (s_68) = (x_104, s_111, s_112) := by have q := fx_104; simp only [emqx, enqx, hs_67, hs_68, hs_111, hs_112] at q; exact q.symm
        refine g_if_eq C (tgt := 61) dX12_table_51 (by decide) (fun h_113 => ?_) (fun h_113 => ?_)
        · skip
          have r_114 := (⟨(rx_104).1, (eq_rg (h_113) rc_0).2⟩ : Rg 0 0 x_104)
          refine g_iconst C (v := (-1)) dX12_table_61 (by decide) ?_
          refine g_aload_n C 0 dX12_table_62 rfl rfl ?_
          obtain ⟨x_115, hx_115, rx_115⟩ := ex_getw (I := I_105) (a := x) (j := 11) (lo := (-2147483648)) (hi := 2147483647) hUI_105.1 hLx (ro_o hkx (by decide)) rfl
          have f_116 : s_112.mplace = x_115 := (congrArg NR_.mplace hs_112).symm.trans hx_115
          refine g_getI C K hLx hkx f_12_143 (v := x_115) hx_115 dX12_table_63 ?_
          obtain ⟨x_117, hx_117, rx_117, tx_117⟩ := ex_sub (-2147483648) 2147483647 rc_m1 rx_115 (by decide) (by decide) (by decide) (by decide)
          refine g_isub C (v := x_117) dX12_table_66 hx_117 ?_
          have tb_118 : mTableB (MTf R I J x) (NRf R I J x) = none := by (try simp only [hx_77, f_78, h_79, c_110, (eq_true h_113), hx_115, f_116, hx_117, if_true, if_false, mqM_tp, mqM_size, mqM_limit, mqM_to, mqM_frm, mqM_kind, mqM_number, mqM_sign, mqM_word, MT_.w_tp, MT_.w_size, MT_.w_limit, MT_.w_to, MT_.w_frm, MT_.w_kind, MT_.w_number, MT_.w_sign, MT_.w_word, nqM_rd, nqM_rn, nqM_taped, nqM_mfault, nqM_mplace, nqM_told, nqM_hl, nqM_hd, NR_.w_rd, NR_.w_rn, NR_.w_taped, NR_.w_mfault, NR_.w_mplace, NR_.w_told, NR_.w_hl, NR_.w_hd] at hQ_69); (try simp only [hx_77, f_78, h_79, c_110, (eq_true h_113), hx_115, f_116, hx_117, if_true, if_false, mqM_tp, mqM_size, mqM_limit, mqM_to, mqM_frm, mqM_kind, mqM_number, mqM_sign, mqM_word, MT_.w_tp, MT_.w_size, MT_.w_limit, MT_.w_to, MT_.w_frm, MT_.w_kind, MT_.w_number, MT_.w_sign, MT_.w_word, nqM_rd, nqM_rn, nqM_taped, nqM_mfault, nqM_mplace, nqM_told, nqM_hl, nqM_hd, NR_.w_rd, NR_.w_rn, NR_.w_taped, NR_.w_mfault, NR_.w_mplace, NR_.w_told, NR_.w_hl, NR_.w_hd] at hQ_70); (try simp only [hx_77, f_78, h_79, c_110, (eq_true h_113), hx_115, f_116, hx_117, if_true, if_false, mqM_tp, mqM_size, mqM_limit, mqM_to, mqM_frm, mqM_kind, mqM_number, mqM_sign, mqM_word, MT_.w_tp, MT_.w_size, MT_.w_limit, MT_.w_to, MT_.w_frm, MT_.w_kind, MT_.w_number, MT_.w_sign, MT_.w_word, nqM_rd, nqM_rn, nqM_taped, nqM_mfault, nqM_mplace, nqM_told, nqM_hl, nqM_hd, NR_.w_rd, NR_.w_rn, NR_.w_taped, NR_.w_mfault, NR_.w_mplace, NR_.w_told, NR_.w_hl, NR_.w_hd] at hQ_71); (try simp only [hx_77, f_78, h_79, c_110, (eq_true h_113), hx_115, f_116, hx_117, if_true, if_false, mqM_tp, mqM_size, mqM_limit, mqM_to, mqM_frm, mqM_kind, mqM_number, mqM_sign, mqM_word, MT_.w_tp, MT_.w_size, MT_.w_limit, MT_.w_to, MT_.w_frm, MT_.w_kind, MT_.w_number, MT_.w_sign, MT_.w_word, nqM_rd, nqM_rn, nqM_taped, nqM_mfault, nqM_mplace, nqM_told, nqM_hl, nqM_hd, NR_.w_rd, NR_.w_rn, NR_.w_taped, NR_.w_mfault, NR_.w_mplace, NR_.w_told, NR_.w_hl, NR_.w_hd] at hQ_72); (try simp only [hx_77, f_78, h_79, c_110, (eq_true h_113), hx_115, f_116, hx_117, if_true, if_false, mqM_tp, mqM_size, mqM_limit, mqM_to, mqM_frm, mqM_kind, mqM_number, mqM_sign, mqM_word, MT_.w_tp, MT_.w_size, MT_.w_limit, MT_.w_to, MT_.w_frm, MT_.w_kind, MT_.w_number, MT_.w_sign, MT_.w_word, nqM_rd, nqM_rn, nqM_taped, nqM_mfault, nqM_mplace, nqM_told, nqM_hl, nqM_hd, NR_.w_rd, NR_.w_rn, NR_.w_taped, NR_.w_mfault, NR_.w_mplace, NR_.w_told, NR_.w_hl, NR_.w_hd] at u_73); (try simp only [hx_77, f_78, h_79, c_110, (eq_true h_113), hx_115, f_116, hx_117, if_true, if_false, mqM_tp, mqM_size, mqM_limit, mqM_to, mqM_frm, mqM_kind, mqM_number, mqM_sign, mqM_word, MT_.w_tp, MT_.w_size, MT_.w_limit, MT_.w_to, MT_.w_frm, MT_.w_kind, MT_.w_number, MT_.w_sign, MT_.w_word, nqM_rd, nqM_rn, nqM_taped, nqM_mfault, nqM_mplace, nqM_told, nqM_hl, nqM_hd, NR_.w_rd, NR_.w_rn, NR_.w_taped, NR_.w_mfault, NR_.w_mplace, NR_.w_told, NR_.w_hl, NR_.w_hd] at u_74); (try simp only [hx_77, f_78, h_79, c_110, (eq_true h_113), hx_115, f_116, hx_117, if_true, if_false, mqM_tp, mqM_size, mqM_limit, mqM_to, mqM_frm, mqM_kind, mqM_number, mqM_sign, mqM_word, MT_.w_tp, MT_.w_size, MT_.w_limit, MT_.w_to, MT_.w_frm, MT_.w_kind, MT_.w_number, MT_.w_sign, MT_.w_word, nqM_rd, nqM_rn, nqM_taped, nqM_mfault, nqM_mplace, nqM_told, nqM_hl, nqM_hd, NR_.w_rd, NR_.w_rn, NR_.w_taped, NR_.w_mfault, NR_.w_mplace, NR_.w_told, NR_.w_hl, NR_.w_hd] at u_75); (try simp only [hx_77, f_78, h_79, c_110, (eq_true h_113), hx_115, f_116, hx_117, if_true, if_false, mqM_tp, mqM_size, mqM_limit, mqM_to, mqM_frm, mqM_kind, mqM_number, mqM_sign, mqM_word, MT_.w_tp, MT_.w_size, MT_.w_limit, MT_.w_to, MT_.w_frm, MT_.w_kind, MT_.w_number, MT_.w_sign, MT_.w_word, nqM_rd, nqM_rn, nqM_taped, nqM_mfault, nqM_mplace, nqM_told, nqM_hl, nqM_hd, NR_.w_rd, NR_.w_rn, NR_.w_taped, NR_.w_mfault, NR_.w_mplace, NR_.w_told, NR_.w_hl, NR_.w_hd] at u_76); simp only [emqx, hs_111, hs_7, enqx, hs_112, hs_8, hQ_69, hQ_70, hQ_71, hQ_72, u_73, u_74, u_75, u_76, hx_77, f_78, h_79, c_110, (eq_true h_113), hx_115, f_116, hx_117, if_true, if_false, mqM_tp, mqM_size, mqM_limit, mqM_to, mqM_frm, mqM_kind, mqM_number, mqM_sign, mqM_word, MT_.w_tp, MT_.w_size, MT_.w_limit, MT_.w_to, MT_.w_frm, MT_.w_kind, MT_.w_number, MT_.w_sign, MT_.w_word, nqM_rd, nqM_rn, nqM_taped, nqM_mfault, nqM_mplace, nqM_told, nqM_hl, nqM_hd, NR_.w_rd, NR_.w_rn, NR_.w_taped, NR_.w_mfault, NR_.w_mplace, NR_.w_told, NR_.w_hl, NR_.w_hd]
          have tb_119 : mTableN (MTf R I J x) (NRf R I J x) = none := by (try simp only [hx_77, f_78, h_79, c_110, (eq_true h_113), hx_115, f_116, hx_117, if_true, if_false, mqM_tp, mqM_size, mqM_limit, mqM_to, mqM_frm, mqM_kind, mqM_number, mqM_sign, mqM_word, MT_.w_tp, MT_.w_size, MT_.w_limit, MT_.w_to, MT_.w_frm, MT_.w_kind, MT_.w_number, MT_.w_sign, MT_.w_word, nqM_rd, nqM_rn, nqM_taped, nqM_mfault, nqM_mplace, nqM_told, nqM_hl, nqM_hd, NR_.w_rd, NR_.w_rn, NR_.w_taped, NR_.w_mfault, NR_.w_mplace, NR_.w_told, NR_.w_hl, NR_.w_hd] at hQ_69); (try simp only [hx_77, f_78, h_79, c_110, (eq_true h_113), hx_115, f_116, hx_117, if_true, if_false, mqM_tp, mqM_size, mqM_limit, mqM_to, mqM_frm, mqM_kind, mqM_number, mqM_sign, mqM_word, MT_.w_tp, MT_.w_size, MT_.w_limit, MT_.w_to, MT_.w_frm, MT_.w_kind, MT_.w_number, MT_.w_sign, MT_.w_word, nqM_rd, nqM_rn, nqM_taped, nqM_mfault, nqM_mplace, nqM_told, nqM_hl, nqM_hd, NR_.w_rd, NR_.w_rn, NR_.w_taped, NR_.w_mfault, NR_.w_mplace, NR_.w_told, NR_.w_hl, NR_.w_hd] at hQ_70); (try simp only [hx_77, f_78, h_79, c_110, (eq_true h_113), hx_115, f_116, hx_117, if_true, if_false, mqM_tp, mqM_size, mqM_limit, mqM_to, mqM_frm, mqM_kind, mqM_number, mqM_sign, mqM_word, MT_.w_tp, MT_.w_size, MT_.w_limit, MT_.w_to, MT_.w_frm, MT_.w_kind, MT_.w_number, MT_.w_sign, MT_.w_word, nqM_rd, nqM_rn, nqM_taped, nqM_mfault, nqM_mplace, nqM_told, nqM_hl, nqM_hd, NR_.w_rd, NR_.w_rn, NR_.w_taped, NR_.w_mfault, NR_.w_mplace, NR_.w_told, NR_.w_hl, NR_.w_hd] at hQ_71); (try simp only [hx_77, f_78, h_79, c_110, (eq_true h_113), hx_115, f_116, hx_117, if_true, if_false, mqM_tp, mqM_size, mqM_limit, mqM_to, mqM_frm, mqM_kind, mqM_number, mqM_sign, mqM_word, MT_.w_tp, MT_.w_size, MT_.w_limit, MT_.w_to, MT_.w_frm, MT_.w_kind, MT_.w_number, MT_.w_sign, MT_.w_word, nqM_rd, nqM_rn, nqM_taped, nqM_mfault, nqM_mplace, nqM_told, nqM_hl, nqM_hd, NR_.w_rd, NR_.w_rn, NR_.w_taped, NR_.w_mfault, NR_.w_mplace, NR_.w_told, NR_.w_hl, NR_.w_hd] at hQ_72); (try simp only [hx_77, f_78, h_79, c_110, (eq_true h_113), hx_115, f_116, hx_117, if_true, if_false, mqM_tp, mqM_size, mqM_limit, mqM_to, mqM_frm, mqM_kind, mqM_number, mqM_sign, mqM_word, MT_.w_tp, MT_.w_size, MT_.w_limit, MT_.w_to, MT_.w_frm, MT_.w_kind, MT_.w_number, MT_.w_sign, MT_.w_word, nqM_rd, nqM_rn, nqM_taped, nqM_mfault, nqM_mplace, nqM_told, nqM_hl, nqM_hd, NR_.w_rd, NR_.w_rn, NR_.w_taped, NR_.w_mfault, NR_.w_mplace, NR_.w_told, NR_.w_hl, NR_.w_hd] at u_73); (try simp only [hx_77, f_78, h_79, c_110, (eq_true h_113), hx_115, f_116, hx_117, if_true, if_false, mqM_tp, mqM_size, mqM_limit, mqM_to, mqM_frm, mqM_kind, mqM_number, mqM_sign, mqM_word, MT_.w_tp, MT_.w_size, MT_.w_limit, MT_.w_to, MT_.w_frm, MT_.w_kind, MT_.w_number, MT_.w_sign, MT_.w_word, nqM_rd, nqM_rn, nqM_taped, nqM_mfault, nqM_mplace, nqM_told, nqM_hl, nqM_hd, NR_.w_rd, NR_.w_rn, NR_.w_taped, NR_.w_mfault, NR_.w_mplace, NR_.w_told, NR_.w_hl, NR_.w_hd] at u_74); (try simp only [hx_77, f_78, h_79, c_110, (eq_true h_113), hx_115, f_116, hx_117, if_true, if_false, mqM_tp, mqM_size, mqM_limit, mqM_to, mqM_frm, mqM_kind, mqM_number, mqM_sign, mqM_word, MT_.w_tp, MT_.w_size, MT_.w_limit, MT_.w_to, MT_.w_frm, MT_.w_kind, MT_.w_number, MT_.w_sign, MT_.w_word, nqM_rd, nqM_rn, nqM_taped, nqM_mfault, nqM_mplace, nqM_told, nqM_hl, nqM_hd, NR_.w_rd, NR_.w_rn, NR_.w_taped, NR_.w_mfault, NR_.w_mplace, NR_.w_told, NR_.w_hl, NR_.w_hd] at u_75); (try simp only [hx_77, f_78, h_79, c_110, (eq_true h_113), hx_115, f_116, hx_117, if_true, if_false, mqM_tp, mqM_size, mqM_limit, mqM_to, mqM_frm, mqM_kind, mqM_number, mqM_sign, mqM_word, MT_.w_tp, MT_.w_size, MT_.w_limit, MT_.w_to, MT_.w_frm, MT_.w_kind, MT_.w_number, MT_.w_sign, MT_.w_word, nqM_rd, nqM_rn, nqM_taped, nqM_mfault, nqM_mplace, nqM_told, nqM_hl, nqM_hd, NR_.w_rd, NR_.w_rn, NR_.w_taped, NR_.w_mfault, NR_.w_mplace, NR_.w_told, NR_.w_hl, NR_.w_hd] at u_76); simp only [emqx, hs_111, hs_7, enqx, hs_112, hs_8, hQ_69, hQ_70, hQ_71, hQ_72, u_73, u_74, u_75, u_76, hx_77, f_78, h_79, c_110, (eq_true h_113), hx_115, f_116, hx_117, if_true, if_false, mqM_tp, mqM_size, mqM_limit, mqM_to, mqM_frm, mqM_kind, mqM_number, mqM_sign, mqM_word, MT_.w_tp, MT_.w_size, MT_.w_limit, MT_.w_to, MT_.w_frm, MT_.w_kind, MT_.w_number, MT_.w_sign, MT_.w_word, nqM_rd, nqM_rn, nqM_taped, nqM_mfault, nqM_mplace, nqM_told, nqM_hl, nqM_hd, NR_.w_rd, NR_.w_rn, NR_.w_taped, NR_.w_mfault, NR_.w_mplace, NR_.w_told, NR_.w_hl, NR_.w_hd]
          obtain ⟨x_120, hx_120, rx_120⟩ := ex_getw (I := I_105) (a := x) (j := 10) (lo := (-2147483648)) (hi := 2147483647) hUI_105.1 hLx (ro_o hkx (by decide)) rfl
          have f_121 : s_112.mfault = x_120 := (congrArg NR_.mfault hs_112).symm.trans hx_120
          have mf_122 : mTableF (MTf R I J x) (NRf R I J x) = x_120 := by (try simp only [hx_77, f_78, h_79, c_110, (eq_true h_113), hx_115, f_116, hx_117, hx_120, f_121, if_true, if_false, mqM_tp, mqM_size, mqM_limit, mqM_to, mqM_frm, mqM_kind, mqM_number, mqM_sign, mqM_word, MT_.w_tp, MT_.w_size, MT_.w_limit, MT_.w_to, MT_.w_frm, MT_.w_kind, MT_.w_number, MT_.w_sign, MT_.w_word, nqM_rd, nqM_rn, nqM_taped, nqM_mfault, nqM_mplace, nqM_told, nqM_hl, nqM_hd, NR_.w_rd, NR_.w_rn, NR_.w_taped, NR_.w_mfault, NR_.w_mplace, NR_.w_told, NR_.w_hl, NR_.w_hd] at hQ_69); (try simp only [hx_77, f_78, h_79, c_110, (eq_true h_113), hx_115, f_116, hx_117, hx_120, f_121, if_true, if_false, mqM_tp, mqM_size, mqM_limit, mqM_to, mqM_frm, mqM_kind, mqM_number, mqM_sign, mqM_word, MT_.w_tp, MT_.w_size, MT_.w_limit, MT_.w_to, MT_.w_frm, MT_.w_kind, MT_.w_number, MT_.w_sign, MT_.w_word, nqM_rd, nqM_rn, nqM_taped, nqM_mfault, nqM_mplace, nqM_told, nqM_hl, nqM_hd, NR_.w_rd, NR_.w_rn, NR_.w_taped, NR_.w_mfault, NR_.w_mplace, NR_.w_told, NR_.w_hl, NR_.w_hd] at hQ_70); (try simp only [hx_77, f_78, h_79, c_110, (eq_true h_113), hx_115, f_116, hx_117, hx_120, f_121, if_true, if_false, mqM_tp, mqM_size, mqM_limit, mqM_to, mqM_frm, mqM_kind, mqM_number, mqM_sign, mqM_word, MT_.w_tp, MT_.w_size, MT_.w_limit, MT_.w_to, MT_.w_frm, MT_.w_kind, MT_.w_number, MT_.w_sign, MT_.w_word, nqM_rd, nqM_rn, nqM_taped, nqM_mfault, nqM_mplace, nqM_told, nqM_hl, nqM_hd, NR_.w_rd, NR_.w_rn, NR_.w_taped, NR_.w_mfault, NR_.w_mplace, NR_.w_told, NR_.w_hl, NR_.w_hd] at hQ_71); (try simp only [hx_77, f_78, h_79, c_110, (eq_true h_113), hx_115, f_116, hx_117, hx_120, f_121, if_true, if_false, mqM_tp, mqM_size, mqM_limit, mqM_to, mqM_frm, mqM_kind, mqM_number, mqM_sign, mqM_word, MT_.w_tp, MT_.w_size, MT_.w_limit, MT_.w_to, MT_.w_frm, MT_.w_kind, MT_.w_number, MT_.w_sign, MT_.w_word, nqM_rd, nqM_rn, nqM_taped, nqM_mfault, nqM_mplace, nqM_told, nqM_hl, nqM_hd, NR_.w_rd, NR_.w_rn, NR_.w_taped, NR_.w_mfault, NR_.w_mplace, NR_.w_told, NR_.w_hl, NR_.w_hd] at hQ_72); (try simp only [hx_77, f_78, h_79, c_110, (eq_true h_113), hx_115, f_116, hx_117, hx_120, f_121, if_true, if_false, mqM_tp, mqM_size, mqM_limit, mqM_to, mqM_frm, mqM_kind, mqM_number, mqM_sign, mqM_word, MT_.w_tp, MT_.w_size, MT_.w_limit, MT_.w_to, MT_.w_frm, MT_.w_kind, MT_.w_number, MT_.w_sign, MT_.w_word, nqM_rd, nqM_rn, nqM_taped, nqM_mfault, nqM_mplace, nqM_told, nqM_hl, nqM_hd, NR_.w_rd, NR_.w_rn, NR_.w_taped, NR_.w_mfault, NR_.w_mplace, NR_.w_told, NR_.w_hl, NR_.w_hd] at u_73); (try simp only [hx_77, f_78, h_79, c_110, (eq_true h_113), hx_115, f_116, hx_117, hx_120, f_121, if_true, if_false, mqM_tp, mqM_size, mqM_limit, mqM_to, mqM_frm, mqM_kind, mqM_number, mqM_sign, mqM_word, MT_.w_tp, MT_.w_size, MT_.w_limit, MT_.w_to, MT_.w_frm, MT_.w_kind, MT_.w_number, MT_.w_sign, MT_.w_word, nqM_rd, nqM_rn, nqM_taped, nqM_mfault, nqM_mplace, nqM_told, nqM_hl, nqM_hd, NR_.w_rd, NR_.w_rn, NR_.w_taped, NR_.w_mfault, NR_.w_mplace, NR_.w_told, NR_.w_hl, NR_.w_hd] at u_74); (try simp only [hx_77, f_78, h_79, c_110, (eq_true h_113), hx_115, f_116, hx_117, hx_120, f_121, if_true, if_false, mqM_tp, mqM_size, mqM_limit, mqM_to, mqM_frm, mqM_kind, mqM_number, mqM_sign, mqM_word, MT_.w_tp, MT_.w_size, MT_.w_limit, MT_.w_to, MT_.w_frm, MT_.w_kind, MT_.w_number, MT_.w_sign, MT_.w_word, nqM_rd, nqM_rn, nqM_taped, nqM_mfault, nqM_mplace, nqM_told, nqM_hl, nqM_hd, NR_.w_rd, NR_.w_rn, NR_.w_taped, NR_.w_mfault, NR_.w_mplace, NR_.w_told, NR_.w_hl, NR_.w_hd] at u_75); (try simp only [hx_77, f_78, h_79, c_110, (eq_true h_113), hx_115, f_116, hx_117, hx_120, f_121, if_true, if_false, mqM_tp, mqM_size, mqM_limit, mqM_to, mqM_frm, mqM_kind, mqM_number, mqM_sign, mqM_word, MT_.w_tp, MT_.w_size, MT_.w_limit, MT_.w_to, MT_.w_frm, MT_.w_kind, MT_.w_number, MT_.w_sign, MT_.w_word, nqM_rd, nqM_rn, nqM_taped, nqM_mfault, nqM_mplace, nqM_told, nqM_hl, nqM_hd, NR_.w_rd, NR_.w_rn, NR_.w_taped, NR_.w_mfault, NR_.w_mplace, NR_.w_told, NR_.w_hl, NR_.w_hd] at u_76); simp only [emqx, hs_111, hs_7, enqx, hs_112, hs_8, hQ_69, hQ_70, hQ_71, hQ_72, u_73, u_74, u_75, u_76, hx_77, f_78, h_79, c_110, (eq_true h_113), hx_115, f_116, hx_117, hx_120, f_121, if_true, if_false, mqM_tp, mqM_size, mqM_limit, mqM_to, mqM_frm, mqM_kind, mqM_number, mqM_sign, mqM_word, MT_.w_tp, MT_.w_size, MT_.w_limit, MT_.w_to, MT_.w_frm, MT_.w_kind, MT_.w_number, MT_.w_sign, MT_.w_word, nqM_rd, nqM_rn, nqM_taped, nqM_mfault, nqM_mplace, nqM_told, nqM_hl, nqM_hd, NR_.w_rd, NR_.w_rn, NR_.w_taped, NR_.w_mfault, NR_.w_mplace, NR_.w_told, NR_.w_hl, NR_.w_hd]
          have f_123 : s_112.taped = 0 := (congrArg NR_.taped hs_112).symm.trans (fq_at hFI_105 hLx hkx (by decide) (by decide) q_59)
          exact g_zret (ty := .int) (r := x_117) B K rfl (rfl) ⟨hUI_105, hF_108, hG_109, rx_117, (by (try simp only [hx_77, f_78, h_79, c_110, (eq_true h_113), hx_115, f_116, hx_117, if_true, if_false, mqM_tp, mqM_size, mqM_limit, mqM_to, mqM_frm, mqM_kind, mqM_number, mqM_sign, mqM_word, MT_.w_tp, MT_.w_size, MT_.w_limit, MT_.w_to, MT_.w_frm, MT_.w_kind, MT_.w_number, MT_.w_sign, MT_.w_word, nqM_rd, nqM_rn, nqM_taped, nqM_mfault, nqM_mplace, nqM_told, nqM_hl, nqM_hd, NR_.w_rd, NR_.w_rn, NR_.w_taped, NR_.w_mfault, NR_.w_mplace, NR_.w_told, NR_.w_hl, NR_.w_hd] at hQ_69); (try simp only [hx_77, f_78, h_79, c_110, (eq_true h_113), hx_115, f_116, hx_117, if_true, if_false, mqM_tp, mqM_size, mqM_limit, mqM_to, mqM_frm, mqM_kind, mqM_number, mqM_sign, mqM_word, MT_.w_tp, MT_.w_size, MT_.w_limit, MT_.w_to, MT_.w_frm, MT_.w_kind, MT_.w_number, MT_.w_sign, MT_.w_word, nqM_rd, nqM_rn, nqM_taped, nqM_mfault, nqM_mplace, nqM_told, nqM_hl, nqM_hd, NR_.w_rd, NR_.w_rn, NR_.w_taped, NR_.w_mfault, NR_.w_mplace, NR_.w_told, NR_.w_hl, NR_.w_hd] at hQ_70); (try simp only [hx_77, f_78, h_79, c_110, (eq_true h_113), hx_115, f_116, hx_117, if_true, if_false, mqM_tp, mqM_size, mqM_limit, mqM_to, mqM_frm, mqM_kind, mqM_number, mqM_sign, mqM_word, MT_.w_tp, MT_.w_size, MT_.w_limit, MT_.w_to, MT_.w_frm, MT_.w_kind, MT_.w_number, MT_.w_sign, MT_.w_word, nqM_rd, nqM_rn, nqM_taped, nqM_mfault, nqM_mplace, nqM_told, nqM_hl, nqM_hd, NR_.w_rd, NR_.w_rn, NR_.w_taped, NR_.w_mfault, NR_.w_mplace, NR_.w_told, NR_.w_hl, NR_.w_hd] at hQ_71); (try simp only [hx_77, f_78, h_79, c_110, (eq_true h_113), hx_115, f_116, hx_117, if_true, if_false, mqM_tp, mqM_size, mqM_limit, mqM_to, mqM_frm, mqM_kind, mqM_number, mqM_sign, mqM_word, MT_.w_tp, MT_.w_size, MT_.w_limit, MT_.w_to, MT_.w_frm, MT_.w_kind, MT_.w_number, MT_.w_sign, MT_.w_word, nqM_rd, nqM_rn, nqM_taped, nqM_mfault, nqM_mplace, nqM_told, nqM_hl, nqM_hd, NR_.w_rd, NR_.w_rn, NR_.w_taped, NR_.w_mfault, NR_.w_mplace, NR_.w_told, NR_.w_hl, NR_.w_hd] at hQ_72); (try simp only [hx_77, f_78, h_79, c_110, (eq_true h_113), hx_115, f_116, hx_117, if_true, if_false, mqM_tp, mqM_size, mqM_limit, mqM_to, mqM_frm, mqM_kind, mqM_number, mqM_sign, mqM_word, MT_.w_tp, MT_.w_size, MT_.w_limit, MT_.w_to, MT_.w_frm, MT_.w_kind, MT_.w_number, MT_.w_sign, MT_.w_word, nqM_rd, nqM_rn, nqM_taped, nqM_mfault, nqM_mplace, nqM_told, nqM_hl, nqM_hd, NR_.w_rd, NR_.w_rn, NR_.w_taped, NR_.w_mfault, NR_.w_mplace, NR_.w_told, NR_.w_hl, NR_.w_hd] at u_73); (try simp only [hx_77, f_78, h_79, c_110, (eq_true h_113), hx_115, f_116, hx_117, if_true, if_false, mqM_tp, mqM_size, mqM_limit, mqM_to, mqM_frm, mqM_kind, mqM_number, mqM_sign, mqM_word, MT_.w_tp, MT_.w_size, MT_.w_limit, MT_.w_to, MT_.w_frm, MT_.w_kind, MT_.w_number, MT_.w_sign, MT_.w_word, nqM_rd, nqM_rn, nqM_taped, nqM_mfault, nqM_mplace, nqM_told, nqM_hl, nqM_hd, NR_.w_rd, NR_.w_rn, NR_.w_taped, NR_.w_mfault, NR_.w_mplace, NR_.w_told, NR_.w_hl, NR_.w_hd] at u_74); (try simp only [hx_77, f_78, h_79, c_110, (eq_true h_113), hx_115, f_116, hx_117, if_true, if_false, mqM_tp, mqM_size, mqM_limit, mqM_to, mqM_frm, mqM_kind, mqM_number, mqM_sign, mqM_word, MT_.w_tp, MT_.w_size, MT_.w_limit, MT_.w_to, MT_.w_frm, MT_.w_kind, MT_.w_number, MT_.w_sign, MT_.w_word, nqM_rd, nqM_rn, nqM_taped, nqM_mfault, nqM_mplace, nqM_told, nqM_hl, nqM_hd, NR_.w_rd, NR_.w_rn, NR_.w_taped, NR_.w_mfault, NR_.w_mplace, NR_.w_told, NR_.w_hl, NR_.w_hd] at u_75); (try simp only [hx_77, f_78, h_79, c_110, (eq_true h_113), hx_115, f_116, hx_117, if_true, if_false, mqM_tp, mqM_size, mqM_limit, mqM_to, mqM_frm, mqM_kind, mqM_number, mqM_sign, mqM_word, MT_.w_tp, MT_.w_size, MT_.w_limit, MT_.w_to, MT_.w_frm, MT_.w_kind, MT_.w_number, MT_.w_sign, MT_.w_word, nqM_rd, nqM_rn, nqM_taped, nqM_mfault, nqM_mplace, nqM_told, nqM_hl, nqM_hd, NR_.w_rd, NR_.w_rn, NR_.w_taped, NR_.w_mfault, NR_.w_mplace, NR_.w_told, NR_.w_hl, NR_.w_hd] at u_76); simp only [emqx, hs_111, hs_7, enqx, hs_112, hs_8, hQ_69, hQ_70, hQ_71, hQ_72, u_73, u_74, u_75, u_76, hx_77, f_78, h_79, c_110, (eq_true h_113), hx_115, f_116, hx_117, if_true, if_false, mqM_tp, mqM_size, mqM_limit, mqM_to, mqM_frm, mqM_kind, mqM_number, mqM_sign, mqM_word, MT_.w_tp, MT_.w_size, MT_.w_limit, MT_.w_to, MT_.w_frm, MT_.w_kind, MT_.w_number, MT_.w_sign, MT_.w_word, nqM_rd, nqM_rn, nqM_taped, nqM_mfault, nqM_mplace, nqM_told, nqM_hl, nqM_hd, NR_.w_rd, NR_.w_rn, NR_.w_taped, NR_.w_mfault, NR_.w_mplace, NR_.w_told, NR_.w_hl, NR_.w_hd]), (Or.inl ⟨tb_118, (hd_fq W9 hLx hkx hd_64 hFI_105 (by decide))⟩), (Or.inl ⟨tb_119, (rj_fq W9 hLx hkx nx_65 hGJ_106 (by decide))⟩), (Eq.trans hx_120 mf_122.symm), ((fq_at hFI_105 hLx hkx (by decide) (by decide) q_59))⟩ dX12_table_67
        · skip
          have n_124 : ¬ x_104 = 0 := h_113
          have r_125 := ne_lo (lo := 1) n_124 rx_104 rc_0 rfl (by decide)
          refine g_aload_n C 0 dX12_table_54 rfl rfl ?_
          refine g_callVI C K (c_X12_readEnd W9 hLx hkx   hUI_105) hLx hkx (by decide) rfl v_12_222 rfl ⟨rfl, rfl⟩ ⟨Nat.le_of_ble_eq_true rfl, Nat.le_of_ble_eq_true rfl⟩ (Nat.le_of_ble_eq_true rfl) ⟨Nat.le_of_ble_eq_true rfl, Nat.le_of_ble_eq_true rfl⟩ dX12_table_55 rfl (st := []) (fun x_126 I_127 J_128 h_129 => ?_)
          obtain ⟨hUI_127, hFI_127, hGJ_128, rx_126, fx_126, ex_126⟩ := h_129
          have hF_130 := fq_tr hF_108 hFI_127 (by decide)
          have hG_131 := fq_tr hG_109 hGJ_128 (by decide)
          obtain ⟨s_133, hs_133⟩ : ∃ z, MTq I_127 J_128 x b_6 = z := ⟨_, rfl⟩
          obtain ⟨s_134, hs_134⟩ : ∃ z, NRq I_127 J_128 x b_4 b_2 = z := ⟨_, rfl⟩
          have c_132 : mReadEnd (s_111) (s_112) = (x_126, s_133, s_134) := by have q := fx_126; simp only [emqx, enqx, hs_111, hs_112, hs_133, hs_134] at q; exact q.symm
          refine g_if_ne C (tgt := 68) dX12_table_58 (by decide) (fun h_135 => ?_) (fun h_135 => ?_)
          · skip
            have n_136 : ¬ x_126 = 0 := h_135
            have r_137 := ne_lo (lo := 1) n_136 rx_126 rc_0 rfl (by decide)
            obtain ⟨x_138, hx_138, rx_138⟩ := ex_any (z0 := v_58 + 1)
            refine g_iinc C dX12_table_68 (k := 1) (v := x_138) rfl hx_138 (by decide) (lo2 := [(1, .int x_138), (0, .ref x)]) rfl ?_
            refine g_goto C (tgt := 40) dX12_table_71 (by decide) ?_
            refine g_lo (is := [1, 0]) (lo2 := [(0, .ref x), (1, .int x_138)]) rfl ?_
            exact ih_40 I_127 J_128 hUI_127 hF_130 hG_131 x_138 (fq_at hFI_127 hLx hkx (by decide) (by decide) (fq_at hFI_105 hLx hkx (by decide) (by decide) q_59)) (by (try simp only [hx_77, f_78, h_79, c_110, h_113, c_132, h_135, hx_138, if_true, if_false, mqM_tp, mqM_size, mqM_limit, mqM_to, mqM_frm, mqM_kind, mqM_number, mqM_sign, mqM_word, MT_.w_tp, MT_.w_size, MT_.w_limit, MT_.w_to, MT_.w_frm, MT_.w_kind, MT_.w_number, MT_.w_sign, MT_.w_word, nqM_rd, nqM_rn, nqM_taped, nqM_mfault, nqM_mplace, nqM_told, nqM_hl, nqM_hd, NR_.w_rd, NR_.w_rn, NR_.w_taped, NR_.w_mfault, NR_.w_mplace, NR_.w_told, NR_.w_hl, NR_.w_hd] at hQ_69); (try simp only [hx_77, f_78, h_79, c_110, h_113, c_132, h_135, hx_138, if_true, if_false, mqM_tp, mqM_size, mqM_limit, mqM_to, mqM_frm, mqM_kind, mqM_number, mqM_sign, mqM_word, MT_.w_tp, MT_.w_size, MT_.w_limit, MT_.w_to, MT_.w_frm, MT_.w_kind, MT_.w_number, MT_.w_sign, MT_.w_word, nqM_rd, nqM_rn, nqM_taped, nqM_mfault, nqM_mplace, nqM_told, nqM_hl, nqM_hd, NR_.w_rd, NR_.w_rn, NR_.w_taped, NR_.w_mfault, NR_.w_mplace, NR_.w_told, NR_.w_hl, NR_.w_hd] at hQ_70); (try simp only [hx_77, f_78, h_79, c_110, h_113, c_132, h_135, hx_138, if_true, if_false, mqM_tp, mqM_size, mqM_limit, mqM_to, mqM_frm, mqM_kind, mqM_number, mqM_sign, mqM_word, MT_.w_tp, MT_.w_size, MT_.w_limit, MT_.w_to, MT_.w_frm, MT_.w_kind, MT_.w_number, MT_.w_sign, MT_.w_word, nqM_rd, nqM_rn, nqM_taped, nqM_mfault, nqM_mplace, nqM_told, nqM_hl, nqM_hd, NR_.w_rd, NR_.w_rn, NR_.w_taped, NR_.w_mfault, NR_.w_mplace, NR_.w_told, NR_.w_hl, NR_.w_hd] at hQ_71); (try simp only [hx_77, f_78, h_79, c_110, h_113, c_132, h_135, hx_138, if_true, if_false, mqM_tp, mqM_size, mqM_limit, mqM_to, mqM_frm, mqM_kind, mqM_number, mqM_sign, mqM_word, MT_.w_tp, MT_.w_size, MT_.w_limit, MT_.w_to, MT_.w_frm, MT_.w_kind, MT_.w_number, MT_.w_sign, MT_.w_word, nqM_rd, nqM_rn, nqM_taped, nqM_mfault, nqM_mplace, nqM_told, nqM_hl, nqM_hd, NR_.w_rd, NR_.w_rn, NR_.w_taped, NR_.w_mfault, NR_.w_mplace, NR_.w_told, NR_.w_hl, NR_.w_hd] at hQ_72); (try simp only [hx_77, f_78, h_79, c_110, h_113, c_132, h_135, hx_138, if_true, if_false, mqM_tp, mqM_size, mqM_limit, mqM_to, mqM_frm, mqM_kind, mqM_number, mqM_sign, mqM_word, MT_.w_tp, MT_.w_size, MT_.w_limit, MT_.w_to, MT_.w_frm, MT_.w_kind, MT_.w_number, MT_.w_sign, MT_.w_word, nqM_rd, nqM_rn, nqM_taped, nqM_mfault, nqM_mplace, nqM_told, nqM_hl, nqM_hd, NR_.w_rd, NR_.w_rn, NR_.w_taped, NR_.w_mfault, NR_.w_mplace, NR_.w_told, NR_.w_hl, NR_.w_hd] at u_73); (try simp only [hx_77, f_78, h_79, c_110, h_113, c_132, h_135, hx_138, if_true, if_false, mqM_tp, mqM_size, mqM_limit, mqM_to, mqM_frm, mqM_kind, mqM_number, mqM_sign, mqM_word, MT_.w_tp, MT_.w_size, MT_.w_limit, MT_.w_to, MT_.w_frm, MT_.w_kind, MT_.w_number, MT_.w_sign, MT_.w_word, nqM_rd, nqM_rn, nqM_taped, nqM_mfault, nqM_mplace, nqM_told, nqM_hl, nqM_hd, NR_.w_rd, NR_.w_rn, NR_.w_taped, NR_.w_mfault, NR_.w_mplace, NR_.w_told, NR_.w_hl, NR_.w_hd] at u_74); (try simp only [hx_77, f_78, h_79, c_110, h_113, c_132, h_135, hx_138, if_true, if_false, mqM_tp, mqM_size, mqM_limit, mqM_to, mqM_frm, mqM_kind, mqM_number, mqM_sign, mqM_word, MT_.w_tp, MT_.w_size, MT_.w_limit, MT_.w_to, MT_.w_frm, MT_.w_kind, MT_.w_number, MT_.w_sign, MT_.w_word, nqM_rd, nqM_rn, nqM_taped, nqM_mfault, nqM_mplace, nqM_told, nqM_hl, nqM_hd, NR_.w_rd, NR_.w_rn, NR_.w_taped, NR_.w_mfault, NR_.w_mplace, NR_.w_told, NR_.w_hl, NR_.w_hd] at u_75); (try simp only [hx_77, f_78, h_79, c_110, h_113, c_132, h_135, hx_138, if_true, if_false, mqM_tp, mqM_size, mqM_limit, mqM_to, mqM_frm, mqM_kind, mqM_number, mqM_sign, mqM_word, MT_.w_tp, MT_.w_size, MT_.w_limit, MT_.w_to, MT_.w_frm, MT_.w_kind, MT_.w_number, MT_.w_sign, MT_.w_word, nqM_rd, nqM_rn, nqM_taped, nqM_mfault, nqM_mplace, nqM_told, nqM_hl, nqM_hd, NR_.w_rd, NR_.w_rn, NR_.w_taped, NR_.w_mfault, NR_.w_mplace, NR_.w_told, NR_.w_hl, NR_.w_hd] at u_76); simp only [emqx, hs_133, hs_7, enqx, hs_134, hs_8, hQ_69, hQ_70, hQ_71, hQ_72, u_73, u_74, u_75, u_76, hx_77, f_78, h_79, c_110, h_113, c_132, h_135, hx_138, if_true, if_false, mqM_tp, mqM_size, mqM_limit, mqM_to, mqM_frm, mqM_kind, mqM_number, mqM_sign, mqM_word, MT_.w_tp, MT_.w_size, MT_.w_limit, MT_.w_to, MT_.w_frm, MT_.w_kind, MT_.w_number, MT_.w_sign, MT_.w_word, nqM_rd, nqM_rn, nqM_taped, nqM_mfault, nqM_mplace, nqM_told, nqM_hl, nqM_hd, NR_.w_rd, NR_.w_rn, NR_.w_taped, NR_.w_mfault, NR_.w_mplace, NR_.w_told, NR_.w_hl, NR_.w_hd]) (by (try simp only [hx_77, f_78, h_79, c_110, h_113, c_132, h_135, hx_138, if_true, if_false, mqM_tp, mqM_size, mqM_limit, mqM_to, mqM_frm, mqM_kind, mqM_number, mqM_sign, mqM_word, MT_.w_tp, MT_.w_size, MT_.w_limit, MT_.w_to, MT_.w_frm, MT_.w_kind, MT_.w_number, MT_.w_sign, MT_.w_word, nqM_rd, nqM_rn, nqM_taped, nqM_mfault, nqM_mplace, nqM_told, nqM_hl, nqM_hd, NR_.w_rd, NR_.w_rn, NR_.w_taped, NR_.w_mfault, NR_.w_mplace, NR_.w_told, NR_.w_hl, NR_.w_hd] at hQ_69); (try simp only [hx_77, f_78, h_79, c_110, h_113, c_132, h_135, hx_138, if_true, if_false, mqM_tp, mqM_size, mqM_limit, mqM_to, mqM_frm, mqM_kind, mqM_number, mqM_sign, mqM_word, MT_.w_tp, MT_.w_size, MT_.w_limit, MT_.w_to, MT_.w_frm, MT_.w_kind, MT_.w_number, MT_.w_sign, MT_.w_word, nqM_rd, nqM_rn, nqM_taped, nqM_mfault, nqM_mplace, nqM_told, nqM_hl, nqM_hd, NR_.w_rd, NR_.w_rn, NR_.w_taped, NR_.w_mfault, NR_.w_mplace, NR_.w_told, NR_.w_hl, NR_.w_hd] at hQ_70); (try simp only [hx_77, f_78, h_79, c_110, h_113, c_132, h_135, hx_138, if_true, if_false, mqM_tp, mqM_size, mqM_limit, mqM_to, mqM_frm, mqM_kind, mqM_number, mqM_sign, mqM_word, MT_.w_tp, MT_.w_size, MT_.w_limit, MT_.w_to, MT_.w_frm, MT_.w_kind, MT_.w_number, MT_.w_sign, MT_.w_word, nqM_rd, nqM_rn, nqM_taped, nqM_mfault, nqM_mplace, nqM_told, nqM_hl, nqM_hd, NR_.w_rd, NR_.w_rn, NR_.w_taped, NR_.w_mfault, NR_.w_mplace, NR_.w_told, NR_.w_hl, NR_.w_hd] at hQ_71); (try simp only [hx_77, f_78, h_79, c_110, h_113, c_132, h_135, hx_138, if_true, if_false, mqM_tp, mqM_size, mqM_limit, mqM_to, mqM_frm, mqM_kind, mqM_number, mqM_sign, mqM_word, MT_.w_tp, MT_.w_size, MT_.w_limit, MT_.w_to, MT_.w_frm, MT_.w_kind, MT_.w_number, MT_.w_sign, MT_.w_word, nqM_rd, nqM_rn, nqM_taped, nqM_mfault, nqM_mplace, nqM_told, nqM_hl, nqM_hd, NR_.w_rd, NR_.w_rn, NR_.w_taped, NR_.w_mfault, NR_.w_mplace, NR_.w_told, NR_.w_hl, NR_.w_hd] at hQ_72); (try simp only [hx_77, f_78, h_79, c_110, h_113, c_132, h_135, hx_138, if_true, if_false, mqM_tp, mqM_size, mqM_limit, mqM_to, mqM_frm, mqM_kind, mqM_number, mqM_sign, mqM_word, MT_.w_tp, MT_.w_size, MT_.w_limit, MT_.w_to, MT_.w_frm, MT_.w_kind, MT_.w_number, MT_.w_sign, MT_.w_word, nqM_rd, nqM_rn, nqM_taped, nqM_mfault, nqM_mplace, nqM_told, nqM_hl, nqM_hd, NR_.w_rd, NR_.w_rn, NR_.w_taped, NR_.w_mfault, NR_.w_mplace, NR_.w_told, NR_.w_hl, NR_.w_hd] at u_73); (try simp only [hx_77, f_78, h_79, c_110, h_113, c_132, h_135, hx_138, if_true, if_false, mqM_tp, mqM_size, mqM_limit, mqM_to, mqM_frm, mqM_kind, mqM_number, mqM_sign, mqM_word, MT_.w_tp, MT_.w_size, MT_.w_limit, MT_.w_to, MT_.w_frm, MT_.w_kind, MT_.w_number, MT_.w_sign, MT_.w_word, nqM_rd, nqM_rn, nqM_taped, nqM_mfault, nqM_mplace, nqM_told, nqM_hl, nqM_hd, NR_.w_rd, NR_.w_rn, NR_.w_taped, NR_.w_mfault, NR_.w_mplace, NR_.w_told, NR_.w_hl, NR_.w_hd] at u_74); (try simp only [hx_77, f_78, h_79, c_110, h_113, c_132, h_135, hx_138, if_true, if_false, mqM_tp, mqM_size, mqM_limit, mqM_to, mqM_frm, mqM_kind, mqM_number, mqM_sign, mqM_word, MT_.w_tp, MT_.w_size, MT_.w_limit, MT_.w_to, MT_.w_frm, MT_.w_kind, MT_.w_number, MT_.w_sign, MT_.w_word, nqM_rd, nqM_rn, nqM_taped, nqM_mfault, nqM_mplace, nqM_told, nqM_hl, nqM_hd, NR_.w_rd, NR_.w_rn, NR_.w_taped, NR_.w_mfault, NR_.w_mplace, NR_.w_told, NR_.w_hl, NR_.w_hd] at u_75); (try simp only [hx_77, f_78, h_79, c_110, h_113, c_132, h_135, hx_138, if_true, if_false, mqM_tp, mqM_size, mqM_limit, mqM_to, mqM_frm, mqM_kind, mqM_number, mqM_sign, mqM_word, MT_.w_tp, MT_.w_size, MT_.w_limit, MT_.w_to, MT_.w_frm, MT_.w_kind, MT_.w_number, MT_.w_sign, MT_.w_word, nqM_rd, nqM_rn, nqM_taped, nqM_mfault, nqM_mplace, nqM_told, nqM_hl, nqM_hd, NR_.w_rd, NR_.w_rn, NR_.w_taped, NR_.w_mfault, NR_.w_mplace, NR_.w_told, NR_.w_hl, NR_.w_hd] at u_76); simp only [emqx, hs_133, hs_7, enqx, hs_134, hs_8, hQ_69, hQ_70, hQ_71, hQ_72, u_73, u_74, u_75, u_76, hx_77, f_78, h_79, c_110, h_113, c_132, h_135, hx_138, if_true, if_false, mqM_tp, mqM_size, mqM_limit, mqM_to, mqM_frm, mqM_kind, mqM_number, mqM_sign, mqM_word, MT_.w_tp, MT_.w_size, MT_.w_limit, MT_.w_to, MT_.w_frm, MT_.w_kind, MT_.w_number, MT_.w_sign, MT_.w_word, nqM_rd, nqM_rn, nqM_taped, nqM_mfault, nqM_mplace, nqM_told, nqM_hl, nqM_hd, NR_.w_rd, NR_.w_rn, NR_.w_taped, NR_.w_mfault, NR_.w_mplace, NR_.w_told, NR_.w_hl, NR_.w_hd]) (by (try simp only [hx_77, f_78, h_79, c_110, h_113, c_132, h_135, hx_138, if_true, if_false, mqM_tp, mqM_size, mqM_limit, mqM_to, mqM_frm, mqM_kind, mqM_number, mqM_sign, mqM_word, MT_.w_tp, MT_.w_size, MT_.w_limit, MT_.w_to, MT_.w_frm, MT_.w_kind, MT_.w_number, MT_.w_sign, MT_.w_word, nqM_rd, nqM_rn, nqM_taped, nqM_mfault, nqM_mplace, nqM_told, nqM_hl, nqM_hd, NR_.w_rd, NR_.w_rn, NR_.w_taped, NR_.w_mfault, NR_.w_mplace, NR_.w_told, NR_.w_hl, NR_.w_hd] at hQ_69); (try simp only [hx_77, f_78, h_79, c_110, h_113, c_132, h_135, hx_138, if_true, if_false, mqM_tp, mqM_size, mqM_limit, mqM_to, mqM_frm, mqM_kind, mqM_number, mqM_sign, mqM_word, MT_.w_tp, MT_.w_size, MT_.w_limit, MT_.w_to, MT_.w_frm, MT_.w_kind, MT_.w_number, MT_.w_sign, MT_.w_word, nqM_rd, nqM_rn, nqM_taped, nqM_mfault, nqM_mplace, nqM_told, nqM_hl, nqM_hd, NR_.w_rd, NR_.w_rn, NR_.w_taped, NR_.w_mfault, NR_.w_mplace, NR_.w_told, NR_.w_hl, NR_.w_hd] at hQ_70); (try simp only [hx_77, f_78, h_79, c_110, h_113, c_132, h_135, hx_138, if_true, if_false, mqM_tp, mqM_size, mqM_limit, mqM_to, mqM_frm, mqM_kind, mqM_number, mqM_sign, mqM_word, MT_.w_tp, MT_.w_size, MT_.w_limit, MT_.w_to, MT_.w_frm, MT_.w_kind, MT_.w_number, MT_.w_sign, MT_.w_word, nqM_rd, nqM_rn, nqM_taped, nqM_mfault, nqM_mplace, nqM_told, nqM_hl, nqM_hd, NR_.w_rd, NR_.w_rn, NR_.w_taped, NR_.w_mfault, NR_.w_mplace, NR_.w_told, NR_.w_hl, NR_.w_hd] at hQ_71); (try simp only [hx_77, f_78, h_79, c_110, h_113, c_132, h_135, hx_138, if_true, if_false, mqM_tp, mqM_size, mqM_limit, mqM_to, mqM_frm, mqM_kind, mqM_number, mqM_sign, mqM_word, MT_.w_tp, MT_.w_size, MT_.w_limit, MT_.w_to, MT_.w_frm, MT_.w_kind, MT_.w_number, MT_.w_sign, MT_.w_word, nqM_rd, nqM_rn, nqM_taped, nqM_mfault, nqM_mplace, nqM_told, nqM_hl, nqM_hd, NR_.w_rd, NR_.w_rn, NR_.w_taped, NR_.w_mfault, NR_.w_mplace, NR_.w_told, NR_.w_hl, NR_.w_hd] at hQ_72); (try simp only [hx_77, f_78, h_79, c_110, h_113, c_132, h_135, hx_138, if_true, if_false, mqM_tp, mqM_size, mqM_limit, mqM_to, mqM_frm, mqM_kind, mqM_number, mqM_sign, mqM_word, MT_.w_tp, MT_.w_size, MT_.w_limit, MT_.w_to, MT_.w_frm, MT_.w_kind, MT_.w_number, MT_.w_sign, MT_.w_word, nqM_rd, nqM_rn, nqM_taped, nqM_mfault, nqM_mplace, nqM_told, nqM_hl, nqM_hd, NR_.w_rd, NR_.w_rn, NR_.w_taped, NR_.w_mfault, NR_.w_mplace, NR_.w_told, NR_.w_hl, NR_.w_hd] at u_73); (try simp only [hx_77, f_78, h_79, c_110, h_113, c_132, h_135, hx_138, if_true, if_false, mqM_tp, mqM_size, mqM_limit, mqM_to, mqM_frm, mqM_kind, mqM_number, mqM_sign, mqM_word, MT_.w_tp, MT_.w_size, MT_.w_limit, MT_.w_to, MT_.w_frm, MT_.w_kind, MT_.w_number, MT_.w_sign, MT_.w_word, nqM_rd, nqM_rn, nqM_taped, nqM_mfault, nqM_mplace, nqM_told, nqM_hl, nqM_hd, NR_.w_rd, NR_.w_rn, NR_.w_taped, NR_.w_mfault, NR_.w_mplace, NR_.w_told, NR_.w_hl, NR_.w_hd] at u_74); (try simp only [hx_77, f_78, h_79, c_110, h_113, c_132, h_135, hx_138, if_true, if_false, mqM_tp, mqM_size, mqM_limit, mqM_to, mqM_frm, mqM_kind, mqM_number, mqM_sign, mqM_word, MT_.w_tp, MT_.w_size, MT_.w_limit, MT_.w_to, MT_.w_frm, MT_.w_kind, MT_.w_number, MT_.w_sign, MT_.w_word, nqM_rd, nqM_rn, nqM_taped, nqM_mfault, nqM_mplace, nqM_told, nqM_hl, nqM_hd, NR_.w_rd, NR_.w_rn, NR_.w_taped, NR_.w_mfault, NR_.w_mplace, NR_.w_told, NR_.w_hl, NR_.w_hd] at u_75); (try simp only [hx_77, f_78, h_79, c_110, h_113, c_132, h_135, hx_138, if_true, if_false, mqM_tp, mqM_size, mqM_limit, mqM_to, mqM_frm, mqM_kind, mqM_number, mqM_sign, mqM_word, MT_.w_tp, MT_.w_size, MT_.w_limit, MT_.w_to, MT_.w_frm, MT_.w_kind, MT_.w_number, MT_.w_sign, MT_.w_word, nqM_rd, nqM_rn, nqM_taped, nqM_mfault, nqM_mplace, nqM_told, nqM_hl, nqM_hd, NR_.w_rd, NR_.w_rn, NR_.w_taped, NR_.w_mfault, NR_.w_mplace, NR_.w_told, NR_.w_hl, NR_.w_hd] at u_76); simp only [emqx, hs_133, hs_7, enqx, hs_134, hs_8, hQ_69, hQ_70, hQ_71, hQ_72, u_73, u_74, u_75, u_76, hx_77, f_78, h_79, c_110, h_113, c_132, h_135, hx_138, if_true, if_false, mqM_tp, mqM_size, mqM_limit, mqM_to, mqM_frm, mqM_kind, mqM_number, mqM_sign, mqM_word, MT_.w_tp, MT_.w_size, MT_.w_limit, MT_.w_to, MT_.w_frm, MT_.w_kind, MT_.w_number, MT_.w_sign, MT_.w_word, nqM_rd, nqM_rn, nqM_taped, nqM_mfault, nqM_mplace, nqM_told, nqM_hl, nqM_hd, NR_.w_rd, NR_.w_rn, NR_.w_taped, NR_.w_mfault, NR_.w_mplace, NR_.w_told, NR_.w_hl, NR_.w_hd]) (by (try simp only [hx_77, f_78, h_79, c_110, h_113, c_132, h_135, hx_138, if_true, if_false, mqM_tp, mqM_size, mqM_limit, mqM_to, mqM_frm, mqM_kind, mqM_number, mqM_sign, mqM_word, MT_.w_tp, MT_.w_size, MT_.w_limit, MT_.w_to, MT_.w_frm, MT_.w_kind, MT_.w_number, MT_.w_sign, MT_.w_word, nqM_rd, nqM_rn, nqM_taped, nqM_mfault, nqM_mplace, nqM_told, nqM_hl, nqM_hd, NR_.w_rd, NR_.w_rn, NR_.w_taped, NR_.w_mfault, NR_.w_mplace, NR_.w_told, NR_.w_hl, NR_.w_hd] at hQ_69); (try simp only [hx_77, f_78, h_79, c_110, h_113, c_132, h_135, hx_138, if_true, if_false, mqM_tp, mqM_size, mqM_limit, mqM_to, mqM_frm, mqM_kind, mqM_number, mqM_sign, mqM_word, MT_.w_tp, MT_.w_size, MT_.w_limit, MT_.w_to, MT_.w_frm, MT_.w_kind, MT_.w_number, MT_.w_sign, MT_.w_word, nqM_rd, nqM_rn, nqM_taped, nqM_mfault, nqM_mplace, nqM_told, nqM_hl, nqM_hd, NR_.w_rd, NR_.w_rn, NR_.w_taped, NR_.w_mfault, NR_.w_mplace, NR_.w_told, NR_.w_hl, NR_.w_hd] at hQ_70); (try simp only [hx_77, f_78, h_79, c_110, h_113, c_132, h_135, hx_138, if_true, if_false, mqM_tp, mqM_size, mqM_limit, mqM_to, mqM_frm, mqM_kind, mqM_number, mqM_sign, mqM_word, MT_.w_tp, MT_.w_size, MT_.w_limit, MT_.w_to, MT_.w_frm, MT_.w_kind, MT_.w_number, MT_.w_sign, MT_.w_word, nqM_rd, nqM_rn, nqM_taped, nqM_mfault, nqM_mplace, nqM_told, nqM_hl, nqM_hd, NR_.w_rd, NR_.w_rn, NR_.w_taped, NR_.w_mfault, NR_.w_mplace, NR_.w_told, NR_.w_hl, NR_.w_hd] at hQ_71); (try simp only [hx_77, f_78, h_79, c_110, h_113, c_132, h_135, hx_138, if_true, if_false, mqM_tp, mqM_size, mqM_limit, mqM_to, mqM_frm, mqM_kind, mqM_number, mqM_sign, mqM_word, MT_.w_tp, MT_.w_size, MT_.w_limit, MT_.w_to, MT_.w_frm, MT_.w_kind, MT_.w_number, MT_.w_sign, MT_.w_word, nqM_rd, nqM_rn, nqM_taped, nqM_mfault, nqM_mplace, nqM_told, nqM_hl, nqM_hd, NR_.w_rd, NR_.w_rn, NR_.w_taped, NR_.w_mfault, NR_.w_mplace, NR_.w_told, NR_.w_hl, NR_.w_hd] at hQ_72); (try simp only [hx_77, f_78, h_79, c_110, h_113, c_132, h_135, hx_138, if_true, if_false, mqM_tp, mqM_size, mqM_limit, mqM_to, mqM_frm, mqM_kind, mqM_number, mqM_sign, mqM_word, MT_.w_tp, MT_.w_size, MT_.w_limit, MT_.w_to, MT_.w_frm, MT_.w_kind, MT_.w_number, MT_.w_sign, MT_.w_word, nqM_rd, nqM_rn, nqM_taped, nqM_mfault, nqM_mplace, nqM_told, nqM_hl, nqM_hd, NR_.w_rd, NR_.w_rn, NR_.w_taped, NR_.w_mfault, NR_.w_mplace, NR_.w_told, NR_.w_hl, NR_.w_hd] at u_73); (try simp only [hx_77, f_78, h_79, c_110, h_113, c_132, h_135, hx_138, if_true, if_false, mqM_tp, mqM_size, mqM_limit, mqM_to, mqM_frm, mqM_kind, mqM_number, mqM_sign, mqM_word, MT_.w_tp, MT_.w_size, MT_.w_limit, MT_.w_to, MT_.w_frm, MT_.w_kind, MT_.w_number, MT_.w_sign, MT_.w_word, nqM_rd, nqM_rn, nqM_taped, nqM_mfault, nqM_mplace, nqM_told, nqM_hl, nqM_hd, NR_.w_rd, NR_.w_rn, NR_.w_taped, NR_.w_mfault, NR_.w_mplace, NR_.w_told, NR_.w_hl, NR_.w_hd] at u_74); (try simp only [hx_77, f_78, h_79, c_110, h_113, c_132, h_135, hx_138, if_true, if_false, mqM_tp, mqM_size, mqM_limit, mqM_to, mqM_frm, mqM_kind, mqM_number, mqM_sign, mqM_word, MT_.w_tp, MT_.w_size, MT_.w_limit, MT_.w_to, MT_.w_frm, MT_.w_kind, MT_.w_number, MT_.w_sign, MT_.w_word, nqM_rd, nqM_rn, nqM_taped, nqM_mfault, nqM_mplace, nqM_told, nqM_hl, nqM_hd, NR_.w_rd, NR_.w_rn, NR_.w_taped, NR_.w_mfault, NR_.w_mplace, NR_.w_told, NR_.w_hl, NR_.w_hd] at u_75); (try simp only [hx_77, f_78, h_79, c_110, h_113, c_132, h_135, hx_138, if_true, if_false, mqM_tp, mqM_size, mqM_limit, mqM_to, mqM_frm, mqM_kind, mqM_number, mqM_sign, mqM_word, MT_.w_tp, MT_.w_size, MT_.w_limit, MT_.w_to, MT_.w_frm, MT_.w_kind, MT_.w_number, MT_.w_sign, MT_.w_word, nqM_rd, nqM_rn, nqM_taped, nqM_mfault, nqM_mplace, nqM_told, nqM_hl, nqM_hd, NR_.w_rd, NR_.w_rn, NR_.w_taped, NR_.w_mfault, NR_.w_mplace, NR_.w_told, NR_.w_hl, NR_.w_hd] at u_76); simp only [emqx, hs_133, hs_7, enqx, hs_134, hs_8, hQ_69, hQ_70, hQ_71, hQ_72, u_73, u_74, u_75, u_76, hx_77, f_78, h_79, c_110, h_113, c_132, h_135, hx_138, if_true, if_false, mqM_tp, mqM_size, mqM_limit, mqM_to, mqM_frm, mqM_kind, mqM_number, mqM_sign, mqM_word, MT_.w_tp, MT_.w_size, MT_.w_limit, MT_.w_to, MT_.w_frm, MT_.w_kind, MT_.w_number, MT_.w_sign, MT_.w_word, nqM_rd, nqM_rn, nqM_taped, nqM_mfault, nqM_mplace, nqM_told, nqM_hl, nqM_hd, NR_.w_rd, NR_.w_rn, NR_.w_taped, NR_.w_mfault, NR_.w_mplace, NR_.w_told, NR_.w_hl, NR_.w_hd]) (hd_fq W9 hLx hkx (hd_fq W9 hLx hkx hd_64 hFI_105 (by decide)) hFI_127 (by decide)) (rj_fq W9 hLx hkx (rj_fq W9 hLx hkx nx_65 hGJ_106 (by decide)) hGJ_128 (by decide)) (tb_m hm_66 (ps_t2 pg_rf (ex_104.2 n_124)) (ex_126.2 (rg_nz r_137 (by decide))) ex_126.1.1)
          · skip
            have r_139 := (⟨(rx_126).1, (eq_rg (h_135) rc_0).2⟩ : Rg 0 0 x_126)
            refine g_iconst C (v := (-1)) dX12_table_61 (by decide) ?_
            refine g_aload_n C 0 dX12_table_62 rfl rfl ?_
            obtain ⟨x_140, hx_140, rx_140⟩ := ex_getw (I := I_127) (a := x) (j := 11) (lo := (-2147483648)) (hi := 2147483647) hUI_127.1 hLx (ro_o hkx (by decide)) rfl
            have f_141 : s_134.mplace = x_140 := (congrArg NR_.mplace hs_134).symm.trans hx_140
            refine g_getI C K hLx hkx f_12_143 (v := x_140) hx_140 dX12_table_63 ?_
            obtain ⟨x_142, hx_142, rx_142, tx_142⟩ := ex_sub (-2147483648) 2147483647 rc_m1 rx_140 (by decide) (by decide) (by decide) (by decide)
            refine g_isub C (v := x_142) dX12_table_66 hx_142 ?_
            have tb_143 : mTableB (MTf R I J x) (NRf R I J x) = none := by (try simp only [hx_77, f_78, h_79, c_110, h_113, c_132, (eq_true h_135), hx_140, f_141, hx_142, if_true, if_false, mqM_tp, mqM_size, mqM_limit, mqM_to, mqM_frm, mqM_kind, mqM_number, mqM_sign, mqM_word, MT_.w_tp, MT_.w_size, MT_.w_limit, MT_.w_to, MT_.w_frm, MT_.w_kind, MT_.w_number, MT_.w_sign, MT_.w_word, nqM_rd, nqM_rn, nqM_taped, nqM_mfault, nqM_mplace, nqM_told, nqM_hl, nqM_hd, NR_.w_rd, NR_.w_rn, NR_.w_taped, NR_.w_mfault, NR_.w_mplace, NR_.w_told, NR_.w_hl, NR_.w_hd] at hQ_69); (try simp only [hx_77, f_78, h_79, c_110, h_113, c_132, (eq_true h_135), hx_140, f_141, hx_142, if_true, if_false, mqM_tp, mqM_size, mqM_limit, mqM_to, mqM_frm, mqM_kind, mqM_number, mqM_sign, mqM_word, MT_.w_tp, MT_.w_size, MT_.w_limit, MT_.w_to, MT_.w_frm, MT_.w_kind, MT_.w_number, MT_.w_sign, MT_.w_word, nqM_rd, nqM_rn, nqM_taped, nqM_mfault, nqM_mplace, nqM_told, nqM_hl, nqM_hd, NR_.w_rd, NR_.w_rn, NR_.w_taped, NR_.w_mfault, NR_.w_mplace, NR_.w_told, NR_.w_hl, NR_.w_hd] at hQ_70); (try simp only [hx_77, f_78, h_79, c_110, h_113, c_132, (eq_true h_135), hx_140, f_141, hx_142, if_true, if_false, mqM_tp, mqM_size, mqM_limit, mqM_to, mqM_frm, mqM_kind, mqM_number, mqM_sign, mqM_word, MT_.w_tp, MT_.w_size, MT_.w_limit, MT_.w_to, MT_.w_frm, MT_.w_kind, MT_.w_number, MT_.w_sign, MT_.w_word, nqM_rd, nqM_rn, nqM_taped, nqM_mfault, nqM_mplace, nqM_told, nqM_hl, nqM_hd, NR_.w_rd, NR_.w_rn, NR_.w_taped, NR_.w_mfault, NR_.w_mplace, NR_.w_told, NR_.w_hl, NR_.w_hd] at hQ_71); (try simp only [hx_77, f_78, h_79, c_110, h_113, c_132, (eq_true h_135), hx_140, f_141, hx_142, if_true, if_false, mqM_tp, mqM_size, mqM_limit, mqM_to, mqM_frm, mqM_kind, mqM_number, mqM_sign, mqM_word, MT_.w_tp, MT_.w_size, MT_.w_limit, MT_.w_to, MT_.w_frm, MT_.w_kind, MT_.w_number, MT_.w_sign, MT_.w_word, nqM_rd, nqM_rn, nqM_taped, nqM_mfault, nqM_mplace, nqM_told, nqM_hl, nqM_hd, NR_.w_rd, NR_.w_rn, NR_.w_taped, NR_.w_mfault, NR_.w_mplace, NR_.w_told, NR_.w_hl, NR_.w_hd] at hQ_72); (try simp only [hx_77, f_78, h_79, c_110, h_113, c_132, (eq_true h_135), hx_140, f_141, hx_142, if_true, if_false, mqM_tp, mqM_size, mqM_limit, mqM_to, mqM_frm, mqM_kind, mqM_number, mqM_sign, mqM_word, MT_.w_tp, MT_.w_size, MT_.w_limit, MT_.w_to, MT_.w_frm, MT_.w_kind, MT_.w_number, MT_.w_sign, MT_.w_word, nqM_rd, nqM_rn, nqM_taped, nqM_mfault, nqM_mplace, nqM_told, nqM_hl, nqM_hd, NR_.w_rd, NR_.w_rn, NR_.w_taped, NR_.w_mfault, NR_.w_mplace, NR_.w_told, NR_.w_hl, NR_.w_hd] at u_73); (try simp only [hx_77, f_78, h_79, c_110, h_113, c_132, (eq_true h_135), hx_140, f_141, hx_142, if_true, if_false, mqM_tp, mqM_size, mqM_limit, mqM_to, mqM_frm, mqM_kind, mqM_number, mqM_sign, mqM_word, MT_.w_tp, MT_.w_size, MT_.w_limit, MT_.w_to, MT_.w_frm, MT_.w_kind, MT_.w_number, MT_.w_sign, MT_.w_word, nqM_rd, nqM_rn, nqM_taped, nqM_mfault, nqM_mplace, nqM_told, nqM_hl, nqM_hd, NR_.w_rd, NR_.w_rn, NR_.w_taped, NR_.w_mfault, NR_.w_mplace, NR_.w_told, NR_.w_hl, NR_.w_hd] at u_74); (try simp only [hx_77, f_78, h_79, c_110, h_113, c_132, (eq_true h_135), hx_140, f_141, hx_142, if_true, if_false, mqM_tp, mqM_size, mqM_limit, mqM_to, mqM_frm, mqM_kind, mqM_number, mqM_sign, mqM_word, MT_.w_tp, MT_.w_size, MT_.w_limit, MT_.w_to, MT_.w_frm, MT_.w_kind, MT_.w_number, MT_.w_sign, MT_.w_word, nqM_rd, nqM_rn, nqM_taped, nqM_mfault, nqM_mplace, nqM_told, nqM_hl, nqM_hd, NR_.w_rd, NR_.w_rn, NR_.w_taped, NR_.w_mfault, NR_.w_mplace, NR_.w_told, NR_.w_hl, NR_.w_hd] at u_75); (try simp only [hx_77, f_78, h_79, c_110, h_113, c_132, (eq_true h_135), hx_140, f_141, hx_142, if_true, if_false, mqM_tp, mqM_size, mqM_limit, mqM_to, mqM_frm, mqM_kind, mqM_number, mqM_sign, mqM_word, MT_.w_tp, MT_.w_size, MT_.w_limit, MT_.w_to, MT_.w_frm, MT_.w_kind, MT_.w_number, MT_.w_sign, MT_.w_word, nqM_rd, nqM_rn, nqM_taped, nqM_mfault, nqM_mplace, nqM_told, nqM_hl, nqM_hd, NR_.w_rd, NR_.w_rn, NR_.w_taped, NR_.w_mfault, NR_.w_mplace, NR_.w_told, NR_.w_hl, NR_.w_hd] at u_76); simp only [emqx, hs_133, hs_7, enqx, hs_134, hs_8, hQ_69, hQ_70, hQ_71, hQ_72, u_73, u_74, u_75, u_76, hx_77, f_78, h_79, c_110, h_113, c_132, (eq_true h_135), hx_140, f_141, hx_142, if_true, if_false, mqM_tp, mqM_size, mqM_limit, mqM_to, mqM_frm, mqM_kind, mqM_number, mqM_sign, mqM_word, MT_.w_tp, MT_.w_size, MT_.w_limit, MT_.w_to, MT_.w_frm, MT_.w_kind, MT_.w_number, MT_.w_sign, MT_.w_word, nqM_rd, nqM_rn, nqM_taped, nqM_mfault, nqM_mplace, nqM_told, nqM_hl, nqM_hd, NR_.w_rd, NR_.w_rn, NR_.w_taped, NR_.w_mfault, NR_.w_mplace, NR_.w_told, NR_.w_hl, NR_.w_hd]
            have tb_144 : mTableN (MTf R I J x) (NRf R I J x) = none := by (try simp only [hx_77, f_78, h_79, c_110, h_113, c_132, (eq_true h_135), hx_140, f_141, hx_142, if_true, if_false, mqM_tp, mqM_size, mqM_limit, mqM_to, mqM_frm, mqM_kind, mqM_number, mqM_sign, mqM_word, MT_.w_tp, MT_.w_size, MT_.w_limit, MT_.w_to, MT_.w_frm, MT_.w_kind, MT_.w_number, MT_.w_sign, MT_.w_word, nqM_rd, nqM_rn, nqM_taped, nqM_mfault, nqM_mplace, nqM_told, nqM_hl, nqM_hd, NR_.w_rd, NR_.w_rn, NR_.w_taped, NR_.w_mfault, NR_.w_mplace, NR_.w_told, NR_.w_hl, NR_.w_hd] at hQ_69); (try simp only [hx_77, f_78, h_79, c_110, h_113, c_132, (eq_true h_135), hx_140, f_141, hx_142, if_true, if_false, mqM_tp, mqM_size, mqM_limit, mqM_to, mqM_frm, mqM_kind, mqM_number, mqM_sign, mqM_word, MT_.w_tp, MT_.w_size, MT_.w_limit, MT_.w_to, MT_.w_frm, MT_.w_kind, MT_.w_number, MT_.w_sign, MT_.w_word, nqM_rd, nqM_rn, nqM_taped, nqM_mfault, nqM_mplace, nqM_told, nqM_hl, nqM_hd, NR_.w_rd, NR_.w_rn, NR_.w_taped, NR_.w_mfault, NR_.w_mplace, NR_.w_told, NR_.w_hl, NR_.w_hd] at hQ_70); (try simp only [hx_77, f_78, h_79, c_110, h_113, c_132, (eq_true h_135), hx_140, f_141, hx_142, if_true, if_false, mqM_tp, mqM_size, mqM_limit, mqM_to, mqM_frm, mqM_kind, mqM_number, mqM_sign, mqM_word, MT_.w_tp, MT_.w_size, MT_.w_limit, MT_.w_to, MT_.w_frm, MT_.w_kind, MT_.w_number, MT_.w_sign, MT_.w_word, nqM_rd, nqM_rn, nqM_taped, nqM_mfault, nqM_mplace, nqM_told, nqM_hl, nqM_hd, NR_.w_rd, NR_.w_rn, NR_.w_taped, NR_.w_mfault, NR_.w_mplace, NR_.w_told, NR_.w_hl, NR_.w_hd] at hQ_71); (try simp only [hx_77, f_78, h_79, c_110, h_113, c_132, (eq_true h_135), hx_140, f_141, hx_142, if_true, if_false, mqM_tp, mqM_size, mqM_limit, mqM_to, mqM_frm, mqM_kind, mqM_number, mqM_sign, mqM_word, MT_.w_tp, MT_.w_size, MT_.w_limit, MT_.w_to, MT_.w_frm, MT_.w_kind, MT_.w_number, MT_.w_sign, MT_.w_word, nqM_rd, nqM_rn, nqM_taped, nqM_mfault, nqM_mplace, nqM_told, nqM_hl, nqM_hd, NR_.w_rd, NR_.w_rn, NR_.w_taped, NR_.w_mfault, NR_.w_mplace, NR_.w_told, NR_.w_hl, NR_.w_hd] at hQ_72); (try simp only [hx_77, f_78, h_79, c_110, h_113, c_132, (eq_true h_135), hx_140, f_141, hx_142, if_true, if_false, mqM_tp, mqM_size, mqM_limit, mqM_to, mqM_frm, mqM_kind, mqM_number, mqM_sign, mqM_word, MT_.w_tp, MT_.w_size, MT_.w_limit, MT_.w_to, MT_.w_frm, MT_.w_kind, MT_.w_number, MT_.w_sign, MT_.w_word, nqM_rd, nqM_rn, nqM_taped, nqM_mfault, nqM_mplace, nqM_told, nqM_hl, nqM_hd, NR_.w_rd, NR_.w_rn, NR_.w_taped, NR_.w_mfault, NR_.w_mplace, NR_.w_told, NR_.w_hl, NR_.w_hd] at u_73); (try simp only [hx_77, f_78, h_79, c_110, h_113, c_132, (eq_true h_135), hx_140, f_141, hx_142, if_true, if_false, mqM_tp, mqM_size, mqM_limit, mqM_to, mqM_frm, mqM_kind, mqM_number, mqM_sign, mqM_word, MT_.w_tp, MT_.w_size, MT_.w_limit, MT_.w_to, MT_.w_frm, MT_.w_kind, MT_.w_number, MT_.w_sign, MT_.w_word, nqM_rd, nqM_rn, nqM_taped, nqM_mfault, nqM_mplace, nqM_told, nqM_hl, nqM_hd, NR_.w_rd, NR_.w_rn, NR_.w_taped, NR_.w_mfault, NR_.w_mplace, NR_.w_told, NR_.w_hl, NR_.w_hd] at u_74); (try simp only [hx_77, f_78, h_79, c_110, h_113, c_132, (eq_true h_135), hx_140, f_141, hx_142, if_true, if_false, mqM_tp, mqM_size, mqM_limit, mqM_to, mqM_frm, mqM_kind, mqM_number, mqM_sign, mqM_word, MT_.w_tp, MT_.w_size, MT_.w_limit, MT_.w_to, MT_.w_frm, MT_.w_kind, MT_.w_number, MT_.w_sign, MT_.w_word, nqM_rd, nqM_rn, nqM_taped, nqM_mfault, nqM_mplace, nqM_told, nqM_hl, nqM_hd, NR_.w_rd, NR_.w_rn, NR_.w_taped, NR_.w_mfault, NR_.w_mplace, NR_.w_told, NR_.w_hl, NR_.w_hd] at u_75); (try simp only [hx_77, f_78, h_79, c_110, h_113, c_132, (eq_true h_135), hx_140, f_141, hx_142, if_true, if_false, mqM_tp, mqM_size, mqM_limit, mqM_to, mqM_frm, mqM_kind, mqM_number, mqM_sign, mqM_word, MT_.w_tp, MT_.w_size, MT_.w_limit, MT_.w_to, MT_.w_frm, MT_.w_kind, MT_.w_number, MT_.w_sign, MT_.w_word, nqM_rd, nqM_rn, nqM_taped, nqM_mfault, nqM_mplace, nqM_told, nqM_hl, nqM_hd, NR_.w_rd, NR_.w_rn, NR_.w_taped, NR_.w_mfault, NR_.w_mplace, NR_.w_told, NR_.w_hl, NR_.w_hd] at u_76); simp only [emqx, hs_133, hs_7, enqx, hs_134, hs_8, hQ_69, hQ_70, hQ_71, hQ_72, u_73, u_74, u_75, u_76, hx_77, f_78, h_79, c_110, h_113, c_132, (eq_true h_135), hx_140, f_141, hx_142, if_true, if_false, mqM_tp, mqM_size, mqM_limit, mqM_to, mqM_frm, mqM_kind, mqM_number, mqM_sign, mqM_word, MT_.w_tp, MT_.w_size, MT_.w_limit, MT_.w_to, MT_.w_frm, MT_.w_kind, MT_.w_number, MT_.w_sign, MT_.w_word, nqM_rd, nqM_rn, nqM_taped, nqM_mfault, nqM_mplace, nqM_told, nqM_hl, nqM_hd, NR_.w_rd, NR_.w_rn, NR_.w_taped, NR_.w_mfault, NR_.w_mplace, NR_.w_told, NR_.w_hl, NR_.w_hd]
            obtain ⟨x_145, hx_145, rx_145⟩ := ex_getw (I := I_127) (a := x) (j := 10) (lo := (-2147483648)) (hi := 2147483647) hUI_127.1 hLx (ro_o hkx (by decide)) rfl
            have f_146 : s_134.mfault = x_145 := (congrArg NR_.mfault hs_134).symm.trans hx_145
            have mf_147 : mTableF (MTf R I J x) (NRf R I J x) = x_145 := by (try simp only [hx_77, f_78, h_79, c_110, h_113, c_132, (eq_true h_135), hx_140, f_141, hx_142, hx_145, f_146, if_true, if_false, mqM_tp, mqM_size, mqM_limit, mqM_to, mqM_frm, mqM_kind, mqM_number, mqM_sign, mqM_word, MT_.w_tp, MT_.w_size, MT_.w_limit, MT_.w_to, MT_.w_frm, MT_.w_kind, MT_.w_number, MT_.w_sign, MT_.w_word, nqM_rd, nqM_rn, nqM_taped, nqM_mfault, nqM_mplace, nqM_told, nqM_hl, nqM_hd, NR_.w_rd, NR_.w_rn, NR_.w_taped, NR_.w_mfault, NR_.w_mplace, NR_.w_told, NR_.w_hl, NR_.w_hd] at hQ_69); (try simp only [hx_77, f_78, h_79, c_110, h_113, c_132, (eq_true h_135), hx_140, f_141, hx_142, hx_145, f_146, if_true, if_false, mqM_tp, mqM_size, mqM_limit, mqM_to, mqM_frm, mqM_kind, mqM_number, mqM_sign, mqM_word, MT_.w_tp, MT_.w_size, MT_.w_limit, MT_.w_to, MT_.w_frm, MT_.w_kind, MT_.w_number, MT_.w_sign, MT_.w_word, nqM_rd, nqM_rn, nqM_taped, nqM_mfault, nqM_mplace, nqM_told, nqM_hl, nqM_hd, NR_.w_rd, NR_.w_rn, NR_.w_taped, NR_.w_mfault, NR_.w_mplace, NR_.w_told, NR_.w_hl, NR_.w_hd] at hQ_70); (try simp only [hx_77, f_78, h_79, c_110, h_113, c_132, (eq_true h_135), hx_140, f_141, hx_142, hx_145, f_146, if_true, if_false, mqM_tp, mqM_size, mqM_limit, mqM_to, mqM_frm, mqM_kind, mqM_number, mqM_sign, mqM_word, MT_.w_tp, MT_.w_size, MT_.w_limit, MT_.w_to, MT_.w_frm, MT_.w_kind, MT_.w_number, MT_.w_sign, MT_.w_word, nqM_rd, nqM_rn, nqM_taped, nqM_mfault, nqM_mplace, nqM_told, nqM_hl, nqM_hd, NR_.w_rd, NR_.w_rn, NR_.w_taped, NR_.w_mfault, NR_.w_mplace, NR_.w_told, NR_.w_hl, NR_.w_hd] at hQ_71); (try simp only [hx_77, f_78, h_79, c_110, h_113, c_132, (eq_true h_135), hx_140, f_141, hx_142, hx_145, f_146, if_true, if_false, mqM_tp, mqM_size, mqM_limit, mqM_to, mqM_frm, mqM_kind, mqM_number, mqM_sign, mqM_word, MT_.w_tp, MT_.w_size, MT_.w_limit, MT_.w_to, MT_.w_frm, MT_.w_kind, MT_.w_number, MT_.w_sign, MT_.w_word, nqM_rd, nqM_rn, nqM_taped, nqM_mfault, nqM_mplace, nqM_told, nqM_hl, nqM_hd, NR_.w_rd, NR_.w_rn, NR_.w_taped, NR_.w_mfault, NR_.w_mplace, NR_.w_told, NR_.w_hl, NR_.w_hd] at hQ_72); (try simp only [hx_77, f_78, h_79, c_110, h_113, c_132, (eq_true h_135), hx_140, f_141, hx_142, hx_145, f_146, if_true, if_false, mqM_tp, mqM_size, mqM_limit, mqM_to, mqM_frm, mqM_kind, mqM_number, mqM_sign, mqM_word, MT_.w_tp, MT_.w_size, MT_.w_limit, MT_.w_to, MT_.w_frm, MT_.w_kind, MT_.w_number, MT_.w_sign, MT_.w_word, nqM_rd, nqM_rn, nqM_taped, nqM_mfault, nqM_mplace, nqM_told, nqM_hl, nqM_hd, NR_.w_rd, NR_.w_rn, NR_.w_taped, NR_.w_mfault, NR_.w_mplace, NR_.w_told, NR_.w_hl, NR_.w_hd] at u_73); (try simp only [hx_77, f_78, h_79, c_110, h_113, c_132, (eq_true h_135), hx_140, f_141, hx_142, hx_145, f_146, if_true, if_false, mqM_tp, mqM_size, mqM_limit, mqM_to, mqM_frm, mqM_kind, mqM_number, mqM_sign, mqM_word, MT_.w_tp, MT_.w_size, MT_.w_limit, MT_.w_to, MT_.w_frm, MT_.w_kind, MT_.w_number, MT_.w_sign, MT_.w_word, nqM_rd, nqM_rn, nqM_taped, nqM_mfault, nqM_mplace, nqM_told, nqM_hl, nqM_hd, NR_.w_rd, NR_.w_rn, NR_.w_taped, NR_.w_mfault, NR_.w_mplace, NR_.w_told, NR_.w_hl, NR_.w_hd] at u_74); (try simp only [hx_77, f_78, h_79, c_110, h_113, c_132, (eq_true h_135), hx_140, f_141, hx_142, hx_145, f_146, if_true, if_false, mqM_tp, mqM_size, mqM_limit, mqM_to, mqM_frm, mqM_kind, mqM_number, mqM_sign, mqM_word, MT_.w_tp, MT_.w_size, MT_.w_limit, MT_.w_to, MT_.w_frm, MT_.w_kind, MT_.w_number, MT_.w_sign, MT_.w_word, nqM_rd, nqM_rn, nqM_taped, nqM_mfault, nqM_mplace, nqM_told, nqM_hl, nqM_hd, NR_.w_rd, NR_.w_rn, NR_.w_taped, NR_.w_mfault, NR_.w_mplace, NR_.w_told, NR_.w_hl, NR_.w_hd] at u_75); (try simp only [hx_77, f_78, h_79, c_110, h_113, c_132, (eq_true h_135), hx_140, f_141, hx_142, hx_145, f_146, if_true, if_false, mqM_tp, mqM_size, mqM_limit, mqM_to, mqM_frm, mqM_kind, mqM_number, mqM_sign, mqM_word, MT_.w_tp, MT_.w_size, MT_.w_limit, MT_.w_to, MT_.w_frm, MT_.w_kind, MT_.w_number, MT_.w_sign, MT_.w_word, nqM_rd, nqM_rn, nqM_taped, nqM_mfault, nqM_mplace, nqM_told, nqM_hl, nqM_hd, NR_.w_rd, NR_.w_rn, NR_.w_taped, NR_.w_mfault, NR_.w_mplace, NR_.w_told, NR_.w_hl, NR_.w_hd] at u_76); simp only [emqx, hs_133, hs_7, enqx, hs_134, hs_8, hQ_69, hQ_70, hQ_71, hQ_72, u_73, u_74, u_75, u_76, hx_77, f_78, h_79, c_110, h_113, c_132, (eq_true h_135), hx_140, f_141, hx_142, hx_145, f_146, if_true, if_false, mqM_tp, mqM_size, mqM_limit, mqM_to, mqM_frm, mqM_kind, mqM_number, mqM_sign, mqM_word, MT_.w_tp, MT_.w_size, MT_.w_limit, MT_.w_to, MT_.w_frm, MT_.w_kind, MT_.w_number, MT_.w_sign, MT_.w_word, nqM_rd, nqM_rn, nqM_taped, nqM_mfault, nqM_mplace, nqM_told, nqM_hl, nqM_hd, NR_.w_rd, NR_.w_rn, NR_.w_taped, NR_.w_mfault, NR_.w_mplace, NR_.w_told, NR_.w_hl, NR_.w_hd]
            have f_148 : s_134.taped = 0 := (congrArg NR_.taped hs_134).symm.trans (fq_at hFI_127 hLx hkx (by decide) (by decide) (fq_at hFI_105 hLx hkx (by decide) (by decide) q_59))
            exact g_zret (ty := .int) (r := x_142) B K rfl (rfl) ⟨hUI_127, hF_130, hG_131, rx_142, (by (try simp only [hx_77, f_78, h_79, c_110, h_113, c_132, (eq_true h_135), hx_140, f_141, hx_142, if_true, if_false, mqM_tp, mqM_size, mqM_limit, mqM_to, mqM_frm, mqM_kind, mqM_number, mqM_sign, mqM_word, MT_.w_tp, MT_.w_size, MT_.w_limit, MT_.w_to, MT_.w_frm, MT_.w_kind, MT_.w_number, MT_.w_sign, MT_.w_word, nqM_rd, nqM_rn, nqM_taped, nqM_mfault, nqM_mplace, nqM_told, nqM_hl, nqM_hd, NR_.w_rd, NR_.w_rn, NR_.w_taped, NR_.w_mfault, NR_.w_mplace, NR_.w_told, NR_.w_hl, NR_.w_hd] at hQ_69); (try simp only [hx_77, f_78, h_79, c_110, h_113, c_132, (eq_true h_135), hx_140, f_141, hx_142, if_true, if_false, mqM_tp, mqM_size, mqM_limit, mqM_to, mqM_frm, mqM_kind, mqM_number, mqM_sign, mqM_word, MT_.w_tp, MT_.w_size, MT_.w_limit, MT_.w_to, MT_.w_frm, MT_.w_kind, MT_.w_number, MT_.w_sign, MT_.w_word, nqM_rd, nqM_rn, nqM_taped, nqM_mfault, nqM_mplace, nqM_told, nqM_hl, nqM_hd, NR_.w_rd, NR_.w_rn, NR_.w_taped, NR_.w_mfault, NR_.w_mplace, NR_.w_told, NR_.w_hl, NR_.w_hd] at hQ_70); (try simp only [hx_77, f_78, h_79, c_110, h_113, c_132, (eq_true h_135), hx_140, f_141, hx_142, if_true, if_false, mqM_tp, mqM_size, mqM_limit, mqM_to, mqM_frm, mqM_kind, mqM_number, mqM_sign, mqM_word, MT_.w_tp, MT_.w_size, MT_.w_limit, MT_.w_to, MT_.w_frm, MT_.w_kind, MT_.w_number, MT_.w_sign, MT_.w_word, nqM_rd, nqM_rn, nqM_taped, nqM_mfault, nqM_mplace, nqM_told, nqM_hl, nqM_hd, NR_.w_rd, NR_.w_rn, NR_.w_taped, NR_.w_mfault, NR_.w_mplace, NR_.w_told, NR_.w_hl, NR_.w_hd] at hQ_71); (try simp only [hx_77, f_78, h_79, c_110, h_113, c_132, (eq_true h_135), hx_140, f_141, hx_142, if_true, if_false, mqM_tp, mqM_size, mqM_limit, mqM_to, mqM_frm, mqM_kind, mqM_number, mqM_sign, mqM_word, MT_.w_tp, MT_.w_size, MT_.w_limit, MT_.w_to, MT_.w_frm, MT_.w_kind, MT_.w_number, MT_.w_sign, MT_.w_word, nqM_rd, nqM_rn, nqM_taped, nqM_mfault, nqM_mplace, nqM_told, nqM_hl, nqM_hd, NR_.w_rd, NR_.w_rn, NR_.w_taped, NR_.w_mfault, NR_.w_mplace, NR_.w_told, NR_.w_hl, NR_.w_hd] at hQ_72); (try simp only [hx_77, f_78, h_79, c_110, h_113, c_132, (eq_true h_135), hx_140, f_141, hx_142, if_true, if_false, mqM_tp, mqM_size, mqM_limit, mqM_to, mqM_frm, mqM_kind, mqM_number, mqM_sign, mqM_word, MT_.w_tp, MT_.w_size, MT_.w_limit, MT_.w_to, MT_.w_frm, MT_.w_kind, MT_.w_number, MT_.w_sign, MT_.w_word, nqM_rd, nqM_rn, nqM_taped, nqM_mfault, nqM_mplace, nqM_told, nqM_hl, nqM_hd, NR_.w_rd, NR_.w_rn, NR_.w_taped, NR_.w_mfault, NR_.w_mplace, NR_.w_told, NR_.w_hl, NR_.w_hd] at u_73); (try simp only [hx_77, f_78, h_79, c_110, h_113, c_132, (eq_true h_135), hx_140, f_141, hx_142, if_true, if_false, mqM_tp, mqM_size, mqM_limit, mqM_to, mqM_frm, mqM_kind, mqM_number, mqM_sign, mqM_word, MT_.w_tp, MT_.w_size, MT_.w_limit, MT_.w_to, MT_.w_frm, MT_.w_kind, MT_.w_number, MT_.w_sign, MT_.w_word, nqM_rd, nqM_rn, nqM_taped, nqM_mfault, nqM_mplace, nqM_told, nqM_hl, nqM_hd, NR_.w_rd, NR_.w_rn, NR_.w_taped, NR_.w_mfault, NR_.w_mplace, NR_.w_told, NR_.w_hl, NR_.w_hd] at u_74); (try simp only [hx_77, f_78, h_79, c_110, h_113, c_132, (eq_true h_135), hx_140, f_141, hx_142, if_true, if_false, mqM_tp, mqM_size, mqM_limit, mqM_to, mqM_frm, mqM_kind, mqM_number, mqM_sign, mqM_word, MT_.w_tp, MT_.w_size, MT_.w_limit, MT_.w_to, MT_.w_frm, MT_.w_kind, MT_.w_number, MT_.w_sign, MT_.w_word, nqM_rd, nqM_rn, nqM_taped, nqM_mfault, nqM_mplace, nqM_told, nqM_hl, nqM_hd, NR_.w_rd, NR_.w_rn, NR_.w_taped, NR_.w_mfault, NR_.w_mplace, NR_.w_told, NR_.w_hl, NR_.w_hd] at u_75); (try simp only [hx_77, f_78, h_79, c_110, h_113, c_132, (eq_true h_135), hx_140, f_141, hx_142, if_true, if_false, mqM_tp, mqM_size, mqM_limit, mqM_to, mqM_frm, mqM_kind, mqM_number, mqM_sign, mqM_word, MT_.w_tp, MT_.w_size, MT_.w_limit, MT_.w_to, MT_.w_frm, MT_.w_kind, MT_.w_number, MT_.w_sign, MT_.w_word, nqM_rd, nqM_rn, nqM_taped, nqM_mfault, nqM_mplace, nqM_told, nqM_hl, nqM_hd, NR_.w_rd, NR_.w_rn, NR_.w_taped, NR_.w_mfault, NR_.w_mplace, NR_.w_told, NR_.w_hl, NR_.w_hd] at u_76); simp only [emqx, hs_133, hs_7, enqx, hs_134, hs_8, hQ_69, hQ_70, hQ_71, hQ_72, u_73, u_74, u_75, u_76, hx_77, f_78, h_79, c_110, h_113, c_132, (eq_true h_135), hx_140, f_141, hx_142, if_true, if_false, mqM_tp, mqM_size, mqM_limit, mqM_to, mqM_frm, mqM_kind, mqM_number, mqM_sign, mqM_word, MT_.w_tp, MT_.w_size, MT_.w_limit, MT_.w_to, MT_.w_frm, MT_.w_kind, MT_.w_number, MT_.w_sign, MT_.w_word, nqM_rd, nqM_rn, nqM_taped, nqM_mfault, nqM_mplace, nqM_told, nqM_hl, nqM_hd, NR_.w_rd, NR_.w_rn, NR_.w_taped, NR_.w_mfault, NR_.w_mplace, NR_.w_told, NR_.w_hl, NR_.w_hd]), (Or.inl ⟨tb_143, (hd_fq W9 hLx hkx (hd_fq W9 hLx hkx hd_64 hFI_105 (by decide)) hFI_127 (by decide))⟩), (Or.inl ⟨tb_144, (rj_fq W9 hLx hkx (rj_fq W9 hLx hkx nx_65 hGJ_106 (by decide)) hGJ_128 (by decide))⟩), (Eq.trans hx_145 mf_147.symm), ((fq_at hFI_127 hLx hkx (by decide) (by decide) (fq_at hFI_105 hLx hkx (by decide) (by decide) q_59)))⟩ dX12_table_67
  have l_9 : ∀ (n_9 : Nat) (I_149 : Nat → Nat → Int32) (J_150 : Nat → Nat → Int64) (hU_151 : Iw L κ R ow I_149) (hF_152 : Fq L κ ow [1200, 1202, 1203, 1204, 1205, 1206, 1207, 1208, 1209, 1210, 1211, 1213, 1223, 1224, 1225, 83400, 83500] I I_149) (hG_153 : Fq L κ ow [1212, 83900, 84000] J J_150) (v_154 : Int32) (rv_154 : Rg 0 72 v_154) (q_155 : I_149 x 2 = 0) (hq_156 : ((MTq I_149 J_150 x b_6), mzr v_154 (NRq I_149 J_150 x b_4 b_2)) = mTz s_7 s_8) (hd_157 : Hd_ R x I I_149) (nx_158 : Rj_ R x J J_150) (hm_159 : 72 < (v_154 : Int32).toInt + (n_9 : Int)), WG p l e { frames := 7, cells := 0, slots := 0, locals := 154 } s m ([.ref x] : List Value).toArray below meth c 3 0 0 (MQ below (Qi_ D cy L κ ln R (fun r I2 J2 => Iw L κ R ow I2 ∧ Fq L κ ow [1200, 1202, 1203, 1204, 1205, 1206, 1207, 1208, 1209, 1210, 1211, 1213, 1223, 1224, 1225, 83400, 83500] I I2 ∧ Fq L κ ow [1212, 83900, 84000] J J2 ∧ Rg (-2147483648) 2147483647 r ∧ (r = mTable (MTf R I J x) (NRf R I J x)) ∧ ((mTableB (MTf R I J x) (NRf R I J x) = none ∧ Hd_ R x I I2) ∨ Nt_ R x I2 (mTableB (MTf R I J x) (NRf R I J x))) ∧ ((mTableN (MTf R I J x) (NRf R I J x) = none ∧ Rj_ R x J J2) ∨ Ny_ R x J2 (mTableN (MTf R I J x) (NRf R I J x))) ∧ (I2 x 10 = mTableF (MTf R I J x) (NRf R I J x)) ∧ ((I2 x 2) = 0))) ([.ref x] : List Value).toArray s 0 0 (Al_ L)) D cy (Al_ L) s.heap L κ ln R I_149 J_150 9 [(0, .ref x), (1, .int v_154)] [] := by
    intro n_9
    induction n_9 with
    | zero =>
      intro I_149 J_150 hU_151 hF_152 hG_153 v_154 rv_154 q_155 hq_156 hd_157 nx_158 hm_159
      exact ms_0 rv_154 hm_159
    | succ n_9 ih_9 =>
      intro I_149 J_150 hU_151 hF_152 hG_153 v_154 rv_154 q_155 hq_156 hd_157 nx_158 hm_159
      obtain ⟨s_160, hs_160⟩ : ∃ z, MTq I_149 J_150 x b_6 = z := ⟨_, rfl⟩
      obtain ⟨s_161, hs_161⟩ : ∃ z, NRq I_149 J_150 x b_4 b_2 = z := ⟨_, rfl⟩
      simp only [hs_160, hs_161] at hq_156
      have hQ_162 := hq_156.symm
      have u_163 := mzr_eq (i := v_154) (n := s_161) (rv_154)
      refine g_iload_n C 1 dX12_table_9 rfl rfl ?_
      refine g_bipush C (v := 72) dX12_table_10 (by decide) ?_
      refine g_icmp_ge C (tgt := 28) dX12_table_12 (by decide) (fun h_164 => ?_) (fun h_164 => ?_)
      · skip
        have r_165 := le_r (h_164) rc_72 rv_154
        refine g_aload_n C 0 dX12_table_28 rfl rfl ?_
        refine g_iconst C (v := 0) dX12_table_29 (by decide) ?_
        refine h_putZ C K hLx hkx f_12_197 p_12_24 (rg_bool (rg_w rc_0 (by decide) (by decide))) dX12_table_30 (fun I_166 hI_166 => ?_)
        have hU_167 := iw_put W9 hU_151 hI_166 (ro_o hkx (by decide)) (lo := 0) (hi := 1) (rfl) (rg_w rc_0 (by decide) (by decide)) rfl
        have hF_168 := fq_puto hF_152 hI_166 hkx (by decide) (by decide)
        have hs_169 : MTq I_166 J_150 x b_6 = s_160 := by rw [hI_166]; exact (mq_uIt wmqx (by decide)).trans hs_160
        have hs_170 : NRq I_166 J_150 x b_4 b_2 = (NR_.w_hl s_161 (0)) := by rw [hI_166]; exact ((nq_hl wnqx).trans (congrArg (fun z : NR_ => NR_.w_hl z (0)) hs_161)).trans rfl
        refine g_aload_n C 0 dX12_table_33 rfl rfl ?_
        refine g_iconst C (v := 0) dX12_table_34 (by decide) ?_
        refine h_putZ C K hLx hkx f_12_213 p_12_25 (rg_bool (rg_w rc_0 (by decide) (by decide))) dX12_table_35 (fun I_171 hI_171 => ?_)
        have hU_172 := iw_put W9 hU_167 hI_171 (ro_o hkx (by decide)) (lo := 0) (hi := 1) (rfl) (rg_w rc_0 (by decide) (by decide)) rfl
        have hF_173 := fq_puto hF_168 hI_171 hkx (by decide) (by decide)
        have hs_174 : MTq I_171 J_150 x b_6 = s_160 := by rw [hI_171]; exact (mq_uIt wmqx (by decide)).trans hs_169
        have hs_175 : NRq I_171 J_150 x b_4 b_2 = (NR_.w_hd (NR_.w_hl s_161 (0)) (0)) := by rw [hI_171]; exact ((nq_hd wnqx).trans (congrArg (fun z : NR_ => NR_.w_hd z (0)) hs_170)).trans rfl
        refine g_iconst C (v := 0) dX12_table_38 (by decide) ?_
        refine g_istore_n C dX12_table_39 rfl (by decide) (lo2 := [(1, .int 0), (0, .ref x)]) rfl ?_
        refine g_lo (is := [1, 0]) (lo2 := [(0, .ref x), (1, .int 0)]) rfl ?_
        exact l_40 941 I_171 J_150 hU_172 hF_173 hG_153 0 (kp_j hI_171 (by decide) (kp_j hI_166 (by decide) q_155)) (by (try simp only [h_164, if_true, if_false, mqM_tp, mqM_size, mqM_limit, mqM_to, mqM_frm, mqM_kind, mqM_number, mqM_sign, mqM_word, MT_.w_tp, MT_.w_size, MT_.w_limit, MT_.w_to, MT_.w_frm, MT_.w_kind, MT_.w_number, MT_.w_sign, MT_.w_word, nqM_rd, nqM_rn, nqM_taped, nqM_mfault, nqM_mplace, nqM_told, nqM_hl, nqM_hd, NR_.w_rd, NR_.w_rn, NR_.w_taped, NR_.w_mfault, NR_.w_mplace, NR_.w_told, NR_.w_hl, NR_.w_hd] at hQ_162); (try simp only [h_164, if_true, if_false, mqM_tp, mqM_size, mqM_limit, mqM_to, mqM_frm, mqM_kind, mqM_number, mqM_sign, mqM_word, MT_.w_tp, MT_.w_size, MT_.w_limit, MT_.w_to, MT_.w_frm, MT_.w_kind, MT_.w_number, MT_.w_sign, MT_.w_word, nqM_rd, nqM_rn, nqM_taped, nqM_mfault, nqM_mplace, nqM_told, nqM_hl, nqM_hd, NR_.w_rd, NR_.w_rn, NR_.w_taped, NR_.w_mfault, NR_.w_mplace, NR_.w_told, NR_.w_hl, NR_.w_hd] at u_163); simp only [mTable, mTbStart, emqx, hs_174, hs_7, enqx, hs_175, hs_8, hQ_162, u_163, h_164, if_true, if_false, mqM_tp, mqM_size, mqM_limit, mqM_to, mqM_frm, mqM_kind, mqM_number, mqM_sign, mqM_word, MT_.w_tp, MT_.w_size, MT_.w_limit, MT_.w_to, MT_.w_frm, MT_.w_kind, MT_.w_number, MT_.w_sign, MT_.w_word, nqM_rd, nqM_rn, nqM_taped, nqM_mfault, nqM_mplace, nqM_told, nqM_hl, nqM_hd, NR_.w_rd, NR_.w_rn, NR_.w_taped, NR_.w_mfault, NR_.w_mplace, NR_.w_told, NR_.w_hl, NR_.w_hd]) (by (try simp only [h_164, if_true, if_false, mqM_tp, mqM_size, mqM_limit, mqM_to, mqM_frm, mqM_kind, mqM_number, mqM_sign, mqM_word, MT_.w_tp, MT_.w_size, MT_.w_limit, MT_.w_to, MT_.w_frm, MT_.w_kind, MT_.w_number, MT_.w_sign, MT_.w_word, nqM_rd, nqM_rn, nqM_taped, nqM_mfault, nqM_mplace, nqM_told, nqM_hl, nqM_hd, NR_.w_rd, NR_.w_rn, NR_.w_taped, NR_.w_mfault, NR_.w_mplace, NR_.w_told, NR_.w_hl, NR_.w_hd] at hQ_162); (try simp only [h_164, if_true, if_false, mqM_tp, mqM_size, mqM_limit, mqM_to, mqM_frm, mqM_kind, mqM_number, mqM_sign, mqM_word, MT_.w_tp, MT_.w_size, MT_.w_limit, MT_.w_to, MT_.w_frm, MT_.w_kind, MT_.w_number, MT_.w_sign, MT_.w_word, nqM_rd, nqM_rn, nqM_taped, nqM_mfault, nqM_mplace, nqM_told, nqM_hl, nqM_hd, NR_.w_rd, NR_.w_rn, NR_.w_taped, NR_.w_mfault, NR_.w_mplace, NR_.w_told, NR_.w_hl, NR_.w_hd] at u_163); simp only [mTableB, mTableN, mTableF, mTbStart, emqx, hs_174, hs_7, enqx, hs_175, hs_8, hQ_162, u_163, h_164, if_true, if_false, mqM_tp, mqM_size, mqM_limit, mqM_to, mqM_frm, mqM_kind, mqM_number, mqM_sign, mqM_word, MT_.w_tp, MT_.w_size, MT_.w_limit, MT_.w_to, MT_.w_frm, MT_.w_kind, MT_.w_number, MT_.w_sign, MT_.w_word, nqM_rd, nqM_rn, nqM_taped, nqM_mfault, nqM_mplace, nqM_told, nqM_hl, nqM_hd, NR_.w_rd, NR_.w_rn, NR_.w_taped, NR_.w_mfault, NR_.w_mplace, NR_.w_told, NR_.w_hl, NR_.w_hd]) (by (try simp only [h_164, if_true, if_false, mqM_tp, mqM_size, mqM_limit, mqM_to, mqM_frm, mqM_kind, mqM_number, mqM_sign, mqM_word, MT_.w_tp, MT_.w_size, MT_.w_limit, MT_.w_to, MT_.w_frm, MT_.w_kind, MT_.w_number, MT_.w_sign, MT_.w_word, nqM_rd, nqM_rn, nqM_taped, nqM_mfault, nqM_mplace, nqM_told, nqM_hl, nqM_hd, NR_.w_rd, NR_.w_rn, NR_.w_taped, NR_.w_mfault, NR_.w_mplace, NR_.w_told, NR_.w_hl, NR_.w_hd] at hQ_162); (try simp only [h_164, if_true, if_false, mqM_tp, mqM_size, mqM_limit, mqM_to, mqM_frm, mqM_kind, mqM_number, mqM_sign, mqM_word, MT_.w_tp, MT_.w_size, MT_.w_limit, MT_.w_to, MT_.w_frm, MT_.w_kind, MT_.w_number, MT_.w_sign, MT_.w_word, nqM_rd, nqM_rn, nqM_taped, nqM_mfault, nqM_mplace, nqM_told, nqM_hl, nqM_hd, NR_.w_rd, NR_.w_rn, NR_.w_taped, NR_.w_mfault, NR_.w_mplace, NR_.w_told, NR_.w_hl, NR_.w_hd] at u_163); simp only [mTableB, mTableN, mTableF, mTbStart, emqx, hs_174, hs_7, enqx, hs_175, hs_8, hQ_162, u_163, h_164, if_true, if_false, mqM_tp, mqM_size, mqM_limit, mqM_to, mqM_frm, mqM_kind, mqM_number, mqM_sign, mqM_word, MT_.w_tp, MT_.w_size, MT_.w_limit, MT_.w_to, MT_.w_frm, MT_.w_kind, MT_.w_number, MT_.w_sign, MT_.w_word, nqM_rd, nqM_rn, nqM_taped, nqM_mfault, nqM_mplace, nqM_told, nqM_hl, nqM_hd, NR_.w_rd, NR_.w_rn, NR_.w_taped, NR_.w_mfault, NR_.w_mplace, NR_.w_told, NR_.w_hl, NR_.w_hd]) (by (try simp only [h_164, if_true, if_false, mqM_tp, mqM_size, mqM_limit, mqM_to, mqM_frm, mqM_kind, mqM_number, mqM_sign, mqM_word, MT_.w_tp, MT_.w_size, MT_.w_limit, MT_.w_to, MT_.w_frm, MT_.w_kind, MT_.w_number, MT_.w_sign, MT_.w_word, nqM_rd, nqM_rn, nqM_taped, nqM_mfault, nqM_mplace, nqM_told, nqM_hl, nqM_hd, NR_.w_rd, NR_.w_rn, NR_.w_taped, NR_.w_mfault, NR_.w_mplace, NR_.w_told, NR_.w_hl, NR_.w_hd] at hQ_162); (try simp only [h_164, if_true, if_false, mqM_tp, mqM_size, mqM_limit, mqM_to, mqM_frm, mqM_kind, mqM_number, mqM_sign, mqM_word, MT_.w_tp, MT_.w_size, MT_.w_limit, MT_.w_to, MT_.w_frm, MT_.w_kind, MT_.w_number, MT_.w_sign, MT_.w_word, nqM_rd, nqM_rn, nqM_taped, nqM_mfault, nqM_mplace, nqM_told, nqM_hl, nqM_hd, NR_.w_rd, NR_.w_rn, NR_.w_taped, NR_.w_mfault, NR_.w_mplace, NR_.w_told, NR_.w_hl, NR_.w_hd] at u_163); simp only [mTableB, mTableN, mTableF, mTbStart, emqx, hs_174, hs_7, enqx, hs_175, hs_8, hQ_162, u_163, h_164, if_true, if_false, mqM_tp, mqM_size, mqM_limit, mqM_to, mqM_frm, mqM_kind, mqM_number, mqM_sign, mqM_word, MT_.w_tp, MT_.w_size, MT_.w_limit, MT_.w_to, MT_.w_frm, MT_.w_kind, MT_.w_number, MT_.w_sign, MT_.w_word, nqM_rd, nqM_rn, nqM_taped, nqM_mfault, nqM_mplace, nqM_told, nqM_hl, nqM_hd, NR_.w_rd, NR_.w_rn, NR_.w_taped, NR_.w_mfault, NR_.w_mplace, NR_.w_told, NR_.w_hl, NR_.w_hd]) (hd_u (r := 0) W9 hLx hkx (hd_u (r := 0) W9 hLx hkx hd_157 hI_166 (Or.inl (ro_o hkx (by decide)))) hI_171 (Or.inl (ro_o hkx (by decide)))) nx_158 (by obtain ⟨z, hz, rz⟩ := ex_getw (I := I_171) (a := x) (j := 5) (lo := 0) (hi := 940) hU_172.1 hLx (ro_o hkx (by decide)) rfl; rw [hz]; have := rz.1; omega)
      · skip
        have r_176 := lt_l (hi := 71) (nle h_164) rv_154 rc_72 (by decide)
        refine g_aload_n C 0 dX12_table_15 rfl rfl ?_
        refine g_getR C K hLx hkx f_12_16 hb_4 dX12_table_16 ?_
        refine g_iload_n C 1 dX12_table_19 rfl rfl ?_
        refine g_iconst C (v := 0) dX12_table_20 (by decide) ?_
        refine h_iast C K hb_4L hb_4k (v_154.toNatClampNeg) (rfl) (ix_0 r_176 (by decide)) (ix_lt r_176 (by decide) hb_4n (by decide)) dX12_table_21 (fun I_177 hI_177 => ?_)
        have hU_178 := iw_put0 W9 hU_151 hI_177 (ro_a hb_4k (by decide) hb_4o hkx rfl) (z0_in _) rfl
        have hF_179 := fq_puta hF_152 hI_177 (ro_a hb_4k (by decide) hb_4o hkx rfl) (by decide) (by decide)
        have hs_180 : MTq I_177 J_150 x b_6 = s_160 := by rw [hI_177]; exact (mq_oI wmqx (ro_a hb_4k (by decide) hb_4o hkx rfl) (by decide)).trans hs_160
        have hs_181 : NRq I_177 J_150 x b_4 b_2 = (NR_.w_rd s_161 (up1 (s_161.rd) (v_154.toNatClampNeg) (0))) := by rw [hI_177]; exact ((nq_rd wnqx).trans (congrArg (fun z : NR_ => NR_.w_rd z (up1 (z.rd) (v_154.toNatClampNeg) (0))) hs_161)).trans rfl
        obtain ⟨x_182, hx_182, rx_182, tx_182⟩ := ex_add (y := 1) 1 72 r_176 rc_1 (by decide) (by decide) (by decide) (by decide)
        refine g_iinc C dX12_table_22 (k := 1) (v := x_182) rfl hx_182 (by decide) (lo2 := [(1, .int x_182), (0, .ref x)]) rfl ?_
        refine g_goto C (tgt := 9) dX12_table_25 (by decide) ?_
        refine g_lo (is := [1, 0]) (lo2 := [(0, .ref x), (1, .int x_182)]) rfl ?_
        exact ih_9 I_177 J_150 hU_178 hF_179 hG_153 x_182 (rg_w rx_182 (by decide) (by decide)) (kp_k (κ := κ) hI_177 (by rw [hkx, hb_4k]; decide) q_155) (by (try simp only [h_164, (nle h_164), hx_182, if_true, if_false, mqM_tp, mqM_size, mqM_limit, mqM_to, mqM_frm, mqM_kind, mqM_number, mqM_sign, mqM_word, MT_.w_tp, MT_.w_size, MT_.w_limit, MT_.w_to, MT_.w_frm, MT_.w_kind, MT_.w_number, MT_.w_sign, MT_.w_word, nqM_rd, nqM_rn, nqM_taped, nqM_mfault, nqM_mplace, nqM_told, nqM_hl, nqM_hd, NR_.w_rd, NR_.w_rn, NR_.w_taped, NR_.w_mfault, NR_.w_mplace, NR_.w_told, NR_.w_hl, NR_.w_hd] at hQ_162); (try simp only [h_164, (nle h_164), hx_182, if_true, if_false, mqM_tp, mqM_size, mqM_limit, mqM_to, mqM_frm, mqM_kind, mqM_number, mqM_sign, mqM_word, MT_.w_tp, MT_.w_size, MT_.w_limit, MT_.w_to, MT_.w_frm, MT_.w_kind, MT_.w_number, MT_.w_sign, MT_.w_word, nqM_rd, nqM_rn, nqM_taped, nqM_mfault, nqM_mplace, nqM_told, nqM_hl, nqM_hd, NR_.w_rd, NR_.w_rn, NR_.w_taped, NR_.w_mfault, NR_.w_mplace, NR_.w_told, NR_.w_hl, NR_.w_hd] at u_163); simp only [emqx, hs_180, hs_7, enqx, hs_181, hs_8, hQ_162, u_163, h_164, (nle h_164), hx_182, if_true, if_false, mqM_tp, mqM_size, mqM_limit, mqM_to, mqM_frm, mqM_kind, mqM_number, mqM_sign, mqM_word, MT_.w_tp, MT_.w_size, MT_.w_limit, MT_.w_to, MT_.w_frm, MT_.w_kind, MT_.w_number, MT_.w_sign, MT_.w_word, nqM_rd, nqM_rn, nqM_taped, nqM_mfault, nqM_mplace, nqM_told, nqM_hl, nqM_hd, NR_.w_rd, NR_.w_rn, NR_.w_taped, NR_.w_mfault, NR_.w_mplace, NR_.w_told, NR_.w_hl, NR_.w_hd]) (hd_u  W9 hLx hkx hd_157 hI_177 (Or.inr (Or.inl ⟨(ro_a hb_4k (by decide) hb_4o hkx rfl), by decide⟩))) nx_158 (ms_1 hm_159 (ti_k tx_182 rc_1) (by decide))
  refine g_aload_n C 0 dX12_table_0 rfl rfl ?_
  refine g_sipush C (v := 900) dX12_table_1 (by decide) ?_
  refine g_callVV C K (c_X12_begin_e W9 hLx hkx 900 (rg_w rc_900 (by decide) (by decide)) hU) hLx hkx (by decide) rfl v_12_216 rfl ⟨rfl, rfl⟩ ⟨Nat.le_of_ble_eq_true rfl, Nat.le_of_ble_eq_true rfl⟩ (Nat.le_of_ble_eq_true rfl) ⟨Nat.le_of_ble_eq_true rfl, Nat.le_of_ble_eq_true rfl⟩ dX12_table_4 rfl (st := []) (fun I_184 J_185 h_186 => ?_)
  obtain ⟨hUI_184, hFI_184, hGJ_185, fx_183, ex_183⟩ := h_186
  have hF_187 := fq_tr hF hFI_184 (by decide)
  have hG_188 := fq_tr hG hGJ_185 (by decide)
  obtain ⟨s_190, hs_190⟩ : ∃ z, MTq I_184 J_185 x b_6 = z := ⟨_, rfl⟩
  obtain ⟨s_191, hs_191⟩ : ∃ z, NRq I_184 J_185 x b_4 b_2 = z := ⟨_, rfl⟩
  have c_189 : mBegin (900) (s_7) (s_8) = (s_190, s_191) := by have q := fx_183; simp only [emqx, enqx, hs_7, hs_8, hs_190, hs_191] at q; exact q.symm
  refine g_iconst C (v := 0) dX12_table_7 (by decide) ?_
  refine g_istore_n C dX12_table_8 rfl (by decide) (lo2 := [(1, .int 0), (0, .ref x)]) rfl ?_
  refine g_lo (is := [1, 0]) (lo2 := [(0, .ref x), (1, .int 0)]) rfl ?_
  exact l_9 73 I_184 J_185 hUI_184 hF_187 hG_188 0 (rg_w rc_0 (by decide) (by decide)) ex_183 (by simp only [mTable, mTz, emqx, hs_190, hs_7, enqx, hs_191, hs_8, c_189, if_true, if_false, mqM_tp, mqM_size, mqM_limit, mqM_to, mqM_frm, mqM_kind, mqM_number, mqM_sign, mqM_word, MT_.w_tp, MT_.w_size, MT_.w_limit, MT_.w_to, MT_.w_frm, MT_.w_kind, MT_.w_number, MT_.w_sign, MT_.w_word, nqM_rd, nqM_rn, nqM_taped, nqM_mfault, nqM_mplace, nqM_told, nqM_hl, nqM_hd, NR_.w_rd, NR_.w_rn, NR_.w_taped, NR_.w_mfault, NR_.w_mplace, NR_.w_told, NR_.w_hl, NR_.w_hd]) (hd_fq W9 hLx hkx hd_rf hFI_184 (by decide)) (rj_fq W9 hLx hkx rj_rf hGJ_185 (by decide)) (ms_s (a := 0) (b := 72) (N := 73) (rg_w rc_0 (by decide) (by decide)) (by decide))
set_option maxRecDepth 100000 in
set_option maxHeartbeats 8000000 in
theorem c_X12_eaters_e {l : Launch} {D : va_G} {cy : Nat → ClassId} {L : List Nat} {κ ln : Nat → Nat} {R : Nat → Nat → Option Nat} {I : Nat → Nat → Int32} {J : Nat → Nat → Int64} {ow : Nat → Nat × Nat} (W9 : ∀ a ∈ L, Shp L κ ln R ow a) {x : Nat} (hLx : x ∈ L) (hkx : κ x = 12) (hU : Iw L κ R ow I) : CtI l yX12_eaters cX12_eaters 6 (some .int) { frames := 2, cells := 0, slots := 0, locals := 43 } D cy L κ ln R I J [.ref x] (fun r I2 J2 => Iw L κ R ow I2 ∧ Fq L κ ow [1200, 1202, 1232, 1233, 85100] I I2 ∧ Fq L κ ow [] J J2 ∧ Rg (-2147483648) 2147483647 r ∧ ((I2 x 2) = 0)) := by
  refine CtI.of (by decide +kernel) (Nat.le_of_ble_eq_true rfl) ?_
  intro p e s m below meth c B K
  have C := B.1
  have hF : Fq L κ ow [1200, 1202, 1232, 1233, 85100] I I := fq_rf
  have hG : Fq L κ ow [] J J := fq_rf
  obtain ⟨b_1, hb_1, hb_1L, hb_1k, hb_1n, hb_1o⟩ := shp_a (W9 x hLx) hkx 31 14 7 rfl (by decide)
  obtain ⟨b_2, hb_2, hb_2L, hb_2k, hb_2n, hb_2o⟩ := shp_a (W9 x hLx) hkx 1 14 940 rfl (by decide)
  obtain ⟨b_3, hb_3, hb_3L, hb_3k, hb_3n, hb_3o⟩ := shp_a (W9 x hLx) hkx 14 14 389 rfl (by decide)
  refine g_lo (is := [0]) (lo2 := [(0, .ref x)]) rfl ?_
  have l_202 : ∀ (n_202 : Nat) (I_4 : Nat → Nat → Int32) (J_5 : Nat → Nat → Int64) (hU_6 : Iw L κ R ow I_4) (hF_7 : Fq L κ ow [1200, 1202, 1232, 1233, 85100] I I_4) (hG_8 : Fq L κ ow [] J J_5) (v_9 : Int32) (nv_9_0 : ¬ v_9 = 0) (v_10 : Int32) (rv_10 : Rg 0 127 v_10) (v_11 : Int32) (rv_11 : Rg 0 7 v_11) (v_12 : Int32) (rv_12 : Rg (-1) 6 v_12) (v_13 : Int32) (rv_13 : Rg 0 5 v_13) (q_14 : I_4 x 0 = 0) (q_15 : I_4 x 2 = 0) (q_16 : I_4 x 32 = v_10) (q_17 : I_4 x 33 = v_12) (q_18 : I_4 b_2 0 = v_13) (hm_19 : 7 < (v_11 : Int32).toInt + (n_202 : Int)), WG p l e { frames := 2, cells := 0, slots := 0, locals := 43 } s m ([.ref x] : List Value).toArray below meth c 6 0 0 (MQ below (Qi_ D cy L κ ln R (fun r I2 J2 => Iw L κ R ow I2 ∧ Fq L κ ow [1200, 1202, 1232, 1233, 85100] I I2 ∧ Fq L κ ow [] J J2 ∧ Rg (-2147483648) 2147483647 r ∧ ((I2 x 2) = 0))) ([.ref x] : List Value).toArray s 0 0 (Al_ L)) D cy (Al_ L) s.heap L κ ln R I_4 J_5 202 [(0, .ref x), (1, .int v_9), (2, .int v_10), (3, .int v_11)] [] := by
    intro n_202
    induction n_202 with
    | zero =>
      intro I_4 J_5 hU_6 hF_7 hG_8 v_9 nv_9_0 v_10 rv_10 v_11 rv_11 v_12 rv_12 v_13 rv_13 q_14 q_15 q_16 q_17 q_18 hm_19
      exact ms_0 rv_11 hm_19
    | succ n_202 ih_202 =>
      intro I_4 J_5 hU_6 hF_7 hG_8 v_9 nv_9_0 v_10 rv_10 v_11 rv_11 v_12 rv_12 v_13 rv_13 q_14 q_15 q_16 q_17 q_18 hm_19
      have j_257 : ∀ (I_20 : Nat → Nat → Int32) (J_21 : Nat → Nat → Int64) (hU_22 : Iw L κ R ow I_20) (hF_23 : Fq L κ ow [1200, 1202, 1232, 1233, 85100] I I_20) (hG_24 : Fq L κ ow [] J J_21) (v_25 : Int32) (nv_25_0 : ¬ v_25 = 0) (v_26 : Int32) (rv_26 : Rg 0 127 v_26) (v_27 : Int32) (rv_27 : Rg 0 6 v_27) (v_28 : Int32) (rv_28 : Rg 0 6 v_28) (nv_28_m1 : ¬ v_28 = (-1)) (v_29 : Int32) (rv_29 : Rg 0 5 v_29) (q_30 : I_20 x 0 = 0) (q_31 : I_20 x 2 = 0) (q_32 : I_20 x 32 = v_26) (q_33 : I_20 x 33 = v_28) (q_34 : I_20 b_2 0 = v_29) (hm_35 : 7 < (v_27 : Int32).toInt + ((n_202 + 1 : Nat) : Int)), WG p l e { frames := 2, cells := 0, slots := 0, locals := 43 } s m ([.ref x] : List Value).toArray below meth c 6 0 0 (MQ below (Qi_ D cy L κ ln R (fun r I2 J2 => Iw L κ R ow I2 ∧ Fq L κ ow [1200, 1202, 1232, 1233, 85100] I I2 ∧ Fq L κ ow [] J J2 ∧ Rg (-2147483648) 2147483647 r ∧ ((I2 x 2) = 0))) ([.ref x] : List Value).toArray s 0 0 (Al_ L)) D cy (Al_ L) s.heap L κ ln R I_20 J_21 257 [(0, .ref x), (1, .int v_25), (2, .int v_26), (3, .int v_27)] [] := by
        intro I_20 J_21 hU_22 hF_23 hG_24 v_25 nv_25_0 v_26 rv_26 v_27 rv_27 v_28 rv_28 nv_28_m1 v_29 rv_29 q_30 q_31 q_32 q_33 q_34 hm_35
        obtain ⟨x_36, hx_36, rx_36, tx_36⟩ := ex_add (y := 1) 1 7 rv_27 rc_1 (by decide) (by decide) (by decide) (by decide)
        refine g_iinc C dX12_eaters_257 (k := 3) (v := x_36) rfl hx_36 (by decide) (lo2 := [(3, .int x_36), (0, .ref x), (1, .int v_25), (2, .int v_26)]) rfl ?_
        refine g_goto C (tgt := 202) dX12_eaters_260 (by decide) ?_
        refine g_lo (is := [1, 2, 3, 0]) (lo2 := [(0, .ref x), (1, .int v_25), (2, .int v_26), (3, .int x_36)]) rfl ?_
        exact ih_202 I_20 J_21 hU_22 hF_23 hG_24 v_25 (nv_25_0) v_26 (rv_26) x_36 (rg_w rx_36 (by decide) (by decide)) v_28 (rg_w rv_28 (by decide) (by decide)) v_29 (rv_29) q_30 q_31 q_32 q_33 q_34 (ms_1 hm_35 (ti_k tx_36 rc_1) (by decide))
      have j_252 : ∀ (I_37 : Nat → Nat → Int32) (J_38 : Nat → Nat → Int64) (hU_39 : Iw L κ R ow I_37) (hF_40 : Fq L κ ow [1200, 1202, 1232, 1233, 85100] I I_37) (hG_41 : Fq L κ ow [] J J_38) (v_42 : Int32) (nv_42_0 : ¬ v_42 = 0) (v_43 : Int32) (rv_43 : Rg 0 127 v_43) (v_44 : Int32) (rv_44 : Rg 0 6 v_44) (v_45 : Int32) (rv_45 : Rg (-1) 6 v_45) (v_46 : Int32) (rv_46 : Rg 0 5 v_46) (q_47 : I_37 x 0 = 0) (q_48 : I_37 x 2 = 0) (q_49 : I_37 x 32 = v_43) (q_50 : I_37 x 33 = v_45) (q_51 : I_37 b_2 0 = v_46) (hm_52 : 7 < (v_44 : Int32).toInt + ((n_202 + 1 : Nat) : Int)), WG p l e { frames := 2, cells := 0, slots := 0, locals := 43 } s m ([.ref x] : List Value).toArray below meth c 6 0 0 (MQ below (Qi_ D cy L κ ln R (fun r I2 J2 => Iw L κ R ow I2 ∧ Fq L κ ow [1200, 1202, 1232, 1233, 85100] I I2 ∧ Fq L κ ow [] J J2 ∧ Rg (-2147483648) 2147483647 r ∧ ((I2 x 2) = 0))) ([.ref x] : List Value).toArray s 0 0 (Al_ L)) D cy (Al_ L) s.heap L κ ln R I_37 J_38 252 [(0, .ref x), (1, .int v_42), (2, .int v_43), (3, .int v_44)] [] := by
        intro I_37 J_38 hU_39 hF_40 hG_41 v_42 nv_42_0 v_43 rv_43 v_44 rv_44 v_45 rv_45 v_46 rv_46 q_47 q_48 q_49 q_50 q_51 hm_52
        refine g_aload_n C 0 dX12_eaters_252 rfl rfl ?_
        refine g_iload_n C 3 dX12_eaters_253 rfl rfl ?_
        refine h_putI C K hLx hkx f_12_58 p_12_33 dX12_eaters_254 (fun I_53 hI_53 => ?_)
        have hU_54 := iw_put W9 hU_39 hI_53 (ro_o hkx (by decide)) (lo := (-2147483648)) (hi := 2147483647) (rfl) (rg_all _) rfl
        have hF_55 := fq_puto hF_40 hI_53 hkx (by decide) (by decide)
        refine g_lo (is := [0, 1, 2, 3]) (lo2 := [(0, .ref x), (1, .int v_42), (2, .int v_43), (3, .int v_44)]) rfl ?_
        exact j_257 I_53 J_38 hU_54 hF_55 hG_41 v_42 (nv_42_0) v_43 (rv_43) v_44 (rv_44) v_44 (rv_44) (rg_nek rv_44 rc_m1 (by decide)) v_46 (rv_46) (kp_j hI_53 (by decide) q_47) (kp_j hI_53 (by decide) q_48) (kp_j hI_53 (by decide) q_49) (kp_s hI_53) (kp_k (κ := κ) hI_53 (by rw [hb_2k, hkx]; decide) q_51) hm_52
      refine g_iload_n C 3 dX12_eaters_202 rfl rfl ?_
      refine g_aload_n C 0 dX12_eaters_203 rfl rfl ?_
      refine g_getR C K hLx hkx f_12_13 hb_3 dX12_eaters_204 ?_
      refine g_iconst C (v := 0) dX12_eaters_207 (by decide) ?_
      obtain ⟨x_56, hx_56, rx_56⟩ := ex_getw (I := I_4) (a := b_3) (j := 0) (lo := 0) (hi := 7) hU_6.1 hb_3L (ro_a hb_3k (by decide) hb_3o hkx rfl) (by decide)
      refine h_iald C K hb_3L hb_3k (v := x_56) (0) (by decide) (by decide) (by rw [hb_3n]; decide) hx_56 dX12_eaters_208 ?_
      refine g_icmp_ge C (tgt := 263) dX12_eaters_209 (by decide) (fun h_57 => ?_) (fun h_57 => ?_)
      · skip
        refine g_iload_n C 1 dX12_eaters_263 rfl rfl ?_
        exact g_zret (ty := .int) (r := v_9) B K rfl (rfl) ⟨hU_6, hF_7, hG_8, (rg_all v_9), (q_15)⟩ dX12_eaters_264
      · skip
        have r_58 := lt_l (hi := 6) (nle h_57) rv_11 rx_56 (by decide)
        have r_59 := lt_r (lo := 1) (nle h_57) rv_11 rx_56 (by decide)
        refine g_aload_n C 0 dX12_eaters_212 rfl rfl ?_
        refine g_getI C K hLx hkx f_12_58 (v := v_12) q_17 dX12_eaters_213 ?_
        refine g_iconst C (v := (-1)) dX12_eaters_216 (by decide) ?_
        refine g_icmp_eq C (tgt := 252) dX12_eaters_217 (by decide) (fun h_60 => ?_) (fun h_60 => ?_)
        · skip
          have r_61 := (⟨(rv_12).1, (eq_rg (h_60) rc_m1).2⟩ : Rg (-1) (-1) v_12)
          refine g_lo (is := [0, 1, 2, 3]) (lo2 := [(0, .ref x), (1, .int v_9), (2, .int v_10), (3, .int v_11)]) rfl ?_
          exact j_252 I_4 J_5 hU_6 hF_7 hG_8 v_9 (nv_9_0) v_10 (rv_10) v_11 (r_58) v_12 (rg_w r_61 (by decide) (by decide)) v_13 (rv_13) q_14 q_15 q_16 q_17 q_18 hm_19
        · skip
          have n_62 : ¬ v_12 = (-1) := h_60
          have r_63 := ne_lo (lo := 0) n_62 rv_12 rc_m1 rfl (by decide)
          refine g_iconst C (v := 2) dX12_eaters_220 (by decide) ?_
          refine g_aload_n C 0 dX12_eaters_221 rfl rfl ?_
          refine g_getR C K hLx hkx f_12_51 hb_1 dX12_eaters_222 ?_
          refine g_iload_n C 3 dX12_eaters_225 rfl rfl ?_
          obtain ⟨x_64, hx_64, rx_64⟩ := ex_any (z0 := I_4 b_1 (v_11.toNatClampNeg))
          refine h_iald C K hb_1L hb_1k (v := x_64) (v_11.toNatClampNeg) (rfl) (ix_0 r_58 (by decide)) (ix_lt r_58 (by decide) hb_1n (by decide)) hx_64 dX12_eaters_226 ?_
          obtain ⟨x_65, hx_65, rx_65⟩ := ex_any (z0 := 2 * x_64)
          refine g_imul C (v := x_65) dX12_eaters_227 hx_65 ?_
          refine g_iload_n C 1 dX12_eaters_228 rfl rfl ?_
          obtain ⟨x_66, hx_66, rx_66⟩ := ex_any (z0 := x_65 - v_9)
          refine g_isub C (v := x_66) dX12_eaters_229 hx_66 ?_
          refine g_callSI C K (c_X12_size W9 x_66  hU_6) s_12_318 rfl ⟨rfl, rfl⟩ ⟨Nat.le_of_ble_eq_true rfl, Nat.le_of_ble_eq_true rfl⟩ (Nat.le_of_ble_eq_true rfl) ⟨Nat.le_of_ble_eq_true rfl, Nat.le_of_ble_eq_true rfl⟩ dX12_eaters_230 rfl (st := []) (fun x_67 I_68 J_69 h_70 => ?_)
          obtain ⟨rfl, rfl, rx_67⟩ := h_70
          refine g_iconst C (v := 2) dX12_eaters_233 (by decide) ?_
          refine g_aload_n C 0 dX12_eaters_234 rfl rfl ?_
          refine g_getR C K hLx hkx f_12_51 hb_1 dX12_eaters_235 ?_
          refine g_aload_n C 0 dX12_eaters_238 rfl rfl ?_
          refine g_getI C K hLx hkx f_12_58 (v := v_12) q_17 dX12_eaters_239 ?_
          obtain ⟨x_71, hx_71, rx_71⟩ := ex_any (z0 := I_4 b_1 (v_12.toNatClampNeg))
          refine h_iald C K hb_1L hb_1k (v := x_71) (v_12.toNatClampNeg) (rfl) (ix_0 r_63 (by decide)) (ix_lt r_63 (by decide) hb_1n (by decide)) hx_71 dX12_eaters_242 ?_
          obtain ⟨x_72, hx_72, rx_72⟩ := ex_any (z0 := 2 * x_71)
          refine g_imul C (v := x_72) dX12_eaters_243 hx_72 ?_
          refine g_iload_n C 1 dX12_eaters_244 rfl rfl ?_
          obtain ⟨x_73, hx_73, rx_73⟩ := ex_any (z0 := x_72 - v_9)
          refine g_isub C (v := x_73) dX12_eaters_245 hx_73 ?_
          refine g_callSI C K (c_X12_size W9 x_73  hU_6) s_12_318 rfl ⟨rfl, rfl⟩ ⟨Nat.le_of_ble_eq_true rfl, Nat.le_of_ble_eq_true rfl⟩ (Nat.le_of_ble_eq_true rfl) ⟨Nat.le_of_ble_eq_true rfl, Nat.le_of_ble_eq_true rfl⟩ dX12_eaters_246 rfl (st := [.int x_67]) (fun x_74 I_75 J_76 h_77 => ?_)
          obtain ⟨rfl, rfl, rx_74⟩ := h_77
          refine g_icmp_ge C (tgt := 257) dX12_eaters_249 (by decide) (fun h_78 => ?_) (fun h_78 => ?_)
          · skip
            refine g_lo (is := [0, 1, 2, 3]) (lo2 := [(0, .ref x), (1, .int v_9), (2, .int v_10), (3, .int v_11)]) rfl ?_
            exact j_257 I_4 J_5 hU_6 hF_7 hG_8 v_9 (nv_9_0) v_10 (rv_10) v_11 (r_58) v_12 (r_63) (n_62) v_13 (rv_13) q_14 q_15 q_16 q_17 q_18 hm_19
          · skip
            have r_79 := lt_l (hi := 2147483646) (nle h_78) rx_67 rx_74 (by decide)
            have r_80 := lt_r (lo := (-2147483647)) (nle h_78) rx_67 rx_74 (by decide)
            refine g_lo (is := [0, 1, 2, 3]) (lo2 := [(0, .ref x), (1, .int v_9), (2, .int v_10), (3, .int v_11)]) rfl ?_
            exact j_252 I_4 J_5 hU_6 hF_7 hG_8 v_9 (nv_9_0) v_10 (rv_10) v_11 (r_58) v_12 (rg_w r_63 (by decide) (by decide)) v_13 (rv_13) q_14 q_15 q_16 q_17 q_18 hm_19
  have l_64 : ∀ (n_64 : Nat) (I_81 : Nat → Nat → Int32) (J_82 : Nat → Nat → Int64) (hU_83 : Iw L κ R ow I_81) (hF_84 : Fq L κ ow [1200, 1202, 1232, 1233, 85100] I I_81) (hG_85 : Fq L κ ow [] J J_82) (v_86 : Int32) (v_87 : Int32) (rv_87 : Rg 0 127 v_87) (v_88 : Int32) (rv_88 : Rg 0 128 v_88) (v_89 : Int32) (rv_89 : Rg 0 5 v_89) (q_90 : I_81 x 0 = 0) (q_91 : I_81 x 2 = 0) (q_92 : I_81 b_2 0 = v_89) (hm_93 : 128 < (v_88 : Int32).toInt + (n_64 : Int)), WG p l e { frames := 2, cells := 0, slots := 0, locals := 43 } s m ([.ref x] : List Value).toArray below meth c 6 0 0 (MQ below (Qi_ D cy L κ ln R (fun r I2 J2 => Iw L κ R ow I2 ∧ Fq L κ ow [1200, 1202, 1232, 1233, 85100] I I2 ∧ Fq L κ ow [] J J2 ∧ Rg (-2147483648) 2147483647 r ∧ ((I2 x 2) = 0))) ([.ref x] : List Value).toArray s 0 0 (Al_ L)) D cy (Al_ L) s.heap L κ ln R I_81 J_82 64 [(0, .ref x), (1, .int v_86), (2, .int v_87), (3, .int v_88)] [] := by
    intro n_64
    induction n_64 with
    | zero =>
      intro I_81 J_82 hU_83 hF_84 hG_85 v_86 v_87 rv_87 v_88 rv_88 v_89 rv_89 q_90 q_91 q_92 hm_93
      exact ms_0 rv_88 hm_93
    | succ n_64 ih_64 =>
      intro I_81 J_82 hU_83 hF_84 hG_85 v_86 v_87 rv_87 v_88 rv_88 v_89 rv_89 q_90 q_91 q_92 hm_93
      have j_178 : ∀ (I_94 : Nat → Nat → Int32) (J_95 : Nat → Nat → Int64) (hU_96 : Iw L κ R ow I_94) (hF_97 : Fq L κ ow [1200, 1202, 1232, 1233, 85100] I I_94) (hG_98 : Fq L κ ow [] J J_95) (v_99 : Int32) (v_100 : Int32) (rv_100 : Rg 0 127 v_100) (v_101 : Int32) (rv_101 : Rg 0 127 v_101) (v_102 : Int32) (v_103 : Int32) (rv_103 : Rg 7 7 v_103) (v_104 : Int32) (rv_104 : Rg 0 5 v_104) (q_105 : I_94 x 0 = 0) (q_106 : I_94 x 2 = 0) (q_107 : I_94 b_2 0 = v_104) (hm_108 : 128 < (v_101 : Int32).toInt + ((n_64 + 1 : Nat) : Int)), WG p l e { frames := 2, cells := 0, slots := 0, locals := 43 } s m ([.ref x] : List Value).toArray below meth c 6 0 0 (MQ below (Qi_ D cy L κ ln R (fun r I2 J2 => Iw L κ R ow I2 ∧ Fq L κ ow [1200, 1202, 1232, 1233, 85100] I I2 ∧ Fq L κ ow [] J J2 ∧ Rg (-2147483648) 2147483647 r ∧ ((I2 x 2) = 0))) ([.ref x] : List Value).toArray s 0 0 (Al_ L)) D cy (Al_ L) s.heap L κ ln R I_94 J_95 178 [(0, .ref x), (1, .int v_99), (2, .int v_100), (3, .int v_101), (4, .int v_102), (5, .int v_103)] [] := by
        intro I_94 J_95 hU_96 hF_97 hG_98 v_99 v_100 rv_100 v_101 rv_101 v_102 v_103 rv_103 v_104 rv_104 q_105 q_106 q_107 hm_108
        obtain ⟨x_109, hx_109, rx_109, tx_109⟩ := ex_add (y := 1) 1 128 rv_101 rc_1 (by decide) (by decide) (by decide) (by decide)
        refine g_iinc C dX12_eaters_178 (k := 3) (v := x_109) rfl hx_109 (by decide) (lo2 := [(3, .int x_109), (0, .ref x), (1, .int v_99), (2, .int v_100), (4, .int v_102), (5, .int v_103)]) rfl ?_
        refine g_goto C (tgt := 64) dX12_eaters_181 (by decide) ?_
        refine g_lo (is := [1, 2, 3, 0]) (lo2 := [(0, .ref x), (1, .int v_99), (2, .int v_100), (3, .int x_109)]) rfl ?_
        exact ih_64 I_94 J_95 hU_96 hF_97 hG_98 v_99 v_100 (rv_100) x_109 (rg_w rx_109 (by decide) (by decide)) v_104 (rv_104) q_105 q_106 q_107 (ms_1 hm_108 (ti_k tx_109 rc_1) (by decide))
      have l_145 : ∀ (n_145 : Nat) (I_110 : Nat → Nat → Int32) (J_111 : Nat → Nat → Int64) (hU_112 : Iw L κ R ow I_110) (hF_113 : Fq L κ ow [1200, 1202, 1232, 1233, 85100] I I_110) (hG_114 : Fq L κ ow [] J J_111) (v_115 : Int32) (v_116 : Int32) (rv_116 : Rg 0 127 v_116) (v_117 : Int32) (rv_117 : Rg 0 127 v_117) (v_118 : Int32) (rv_118 : Rg 0 255 v_118) (v_119 : Int32) (rv_119 : Rg 0 7 v_119) (v_120 : Int32) (rv_120 : Rg 0 5 v_120) (q_121 : I_110 x 0 = 0) (q_122 : I_110 x 2 = 0) (q_123 : I_110 b_2 0 = v_120) (hm_124 : 128 < (v_117 : Int32).toInt + ((n_64 + 1 : Nat) : Int)) (hm_125 : 7 < (v_119 : Int32).toInt + (n_145 : Int)), WG p l e { frames := 2, cells := 0, slots := 0, locals := 43 } s m ([.ref x] : List Value).toArray below meth c 6 0 0 (MQ below (Qi_ D cy L κ ln R (fun r I2 J2 => Iw L κ R ow I2 ∧ Fq L κ ow [1200, 1202, 1232, 1233, 85100] I I2 ∧ Fq L κ ow [] J J2 ∧ Rg (-2147483648) 2147483647 r ∧ ((I2 x 2) = 0))) ([.ref x] : List Value).toArray s 0 0 (Al_ L)) D cy (Al_ L) s.heap L κ ln R I_110 J_111 145 [(0, .ref x), (1, .int v_115), (2, .int v_116), (3, .int v_117), (4, .int v_118), (5, .int v_119)] [] := by
        intro n_145
        induction n_145 with
        | zero =>
          intro I_110 J_111 hU_112 hF_113 hG_114 v_115 v_116 rv_116 v_117 rv_117 v_118 rv_118 v_119 rv_119 v_120 rv_120 q_121 q_122 q_123 hm_124 hm_125
          exact ms_0 rv_119 hm_125
        | succ n_145 ih_145 =>
          intro I_110 J_111 hU_112 hF_113 hG_114 v_115 v_116 rv_116 v_117 rv_117 v_118 rv_118 v_119 rv_119 v_120 rv_120 q_121 q_122 q_123 hm_124 hm_125
          have j_172 : ∀ (I_126 : Nat → Nat → Int32) (J_127 : Nat → Nat → Int64) (hU_128 : Iw L κ R ow I_126) (hF_129 : Fq L κ ow [1200, 1202, 1232, 1233, 85100] I I_126) (hG_130 : Fq L κ ow [] J J_127) (v_131 : Int32) (v_132 : Int32) (rv_132 : Rg 0 127 v_132) (v_133 : Int32) (rv_133 : Rg 0 127 v_133) (v_134 : Int32) (rv_134 : Rg 0 255 v_134) (v_135 : Int32) (rv_135 : Rg 0 6 v_135) (v_136 : Int32) (rv_136 : Rg 0 5 v_136) (q_137 : I_126 x 0 = 0) (q_138 : I_126 x 2 = 0) (q_139 : I_126 b_2 0 = v_136) (hm_140 : 128 < (v_133 : Int32).toInt + ((n_64 + 1 : Nat) : Int)) (hm_141 : 7 < (v_135 : Int32).toInt + ((n_145 + 1 : Nat) : Int)), WG p l e { frames := 2, cells := 0, slots := 0, locals := 43 } s m ([.ref x] : List Value).toArray below meth c 6 0 0 (MQ below (Qi_ D cy L κ ln R (fun r I2 J2 => Iw L κ R ow I2 ∧ Fq L κ ow [1200, 1202, 1232, 1233, 85100] I I2 ∧ Fq L κ ow [] J J2 ∧ Rg (-2147483648) 2147483647 r ∧ ((I2 x 2) = 0))) ([.ref x] : List Value).toArray s 0 0 (Al_ L)) D cy (Al_ L) s.heap L κ ln R I_126 J_127 172 [(0, .ref x), (1, .int v_131), (2, .int v_132), (3, .int v_133), (4, .int v_134), (5, .int v_135)] [] := by
            intro I_126 J_127 hU_128 hF_129 hG_130 v_131 v_132 rv_132 v_133 rv_133 v_134 rv_134 v_135 rv_135 v_136 rv_136 q_137 q_138 q_139 hm_140 hm_141
            obtain ⟨x_142, hx_142, rx_142, tx_142⟩ := ex_add (y := 1) 1 7 rv_135 rc_1 (by decide) (by decide) (by decide) (by decide)
            refine g_iinc C dX12_eaters_172 (k := 5) (v := x_142) rfl hx_142 (by decide) (lo2 := [(5, .int x_142), (0, .ref x), (1, .int v_131), (2, .int v_132), (3, .int v_133), (4, .int v_134)]) rfl ?_
            refine g_goto C (tgt := 145) dX12_eaters_175 (by decide) ?_
            refine g_lo (is := [1, 2, 3, 4, 5, 0]) (lo2 := [(0, .ref x), (1, .int v_131), (2, .int v_132), (3, .int v_133), (4, .int v_134), (5, .int x_142)]) rfl ?_
            exact ih_145 I_126 J_127 hU_128 hF_129 hG_130 v_131 v_132 (rv_132) v_133 (rv_133) v_134 (rv_134) x_142 (rg_w rx_142 (by decide) (by decide)) v_136 (rv_136) q_137 q_138 q_139 hm_140 (ms_1 hm_141 (ti_k tx_142 rc_1) (by decide))
          refine g_iload C 5 dX12_eaters_145 rfl ?_
          refine g_bipush C (v := 7) dX12_eaters_147 (by decide) ?_
          refine g_icmp_ge C (tgt := 178) dX12_eaters_149 (by decide) (fun h_143 => ?_) (fun h_143 => ?_)
          · skip
            have r_144 := le_r (h_143) rc_7 rv_119
            refine g_lo (is := [0, 1, 2, 3, 4, 5]) (lo2 := [(0, .ref x), (1, .int v_115), (2, .int v_116), (3, .int v_117), (4, .int v_118), (5, .int v_119)]) rfl ?_
            exact j_178 I_110 J_111 hU_112 hF_113 hG_114 v_115 v_116 (rv_116) v_117 (rv_117) v_118 v_119 (r_144) v_120 (rv_120) q_121 q_122 q_123 hm_124
          · skip
            have r_145 := lt_l (hi := 6) (nle h_143) rv_119 rc_7 (by decide)
            refine g_iload_n C 3 dX12_eaters_152 rfl rfl ?_
            refine g_iload C 5 dX12_eaters_153 rfl ?_
            refine g_callSI C K (c_X12_has W9 v_117 v_119  hU_112) s_12_231 rfl ⟨rfl, rfl⟩ ⟨Nat.le_of_ble_eq_true rfl, Nat.le_of_ble_eq_true rfl⟩ (Nat.le_of_ble_eq_true rfl) ⟨Nat.le_of_ble_eq_true rfl, Nat.le_of_ble_eq_true rfl⟩ dX12_eaters_155 rfl (st := []) (fun x_146 I_147 J_148 h_149 => ?_)
            obtain ⟨rfl, rfl, rx_146, ex_146⟩ := h_149
            refine g_if_eq C (tgt := 172) dX12_eaters_158 (by decide) (fun h_150 => ?_) (fun h_150 => ?_)
            · skip
              have r_151 := (⟨(rx_146).1, (eq_rg (h_150) rc_0).2⟩ : Rg 0 0 x_146)
              refine g_lo (is := [0, 1, 2, 3, 4, 5]) (lo2 := [(0, .ref x), (1, .int v_115), (2, .int v_116), (3, .int v_117), (4, .int v_118), (5, .int v_119)]) rfl ?_
              exact j_172 I_110 J_111 hU_112 hF_113 hG_114 v_115 v_116 (rv_116) v_117 (rv_117) v_118 (rv_118) v_119 (r_145) v_120 (rv_120) q_121 q_122 q_123 hm_124 hm_125
            · skip
              have n_152 : ¬ x_146 = 0 := h_150
              have r_153 := ne_lo (lo := 1) n_152 rx_146 rc_0 rfl (by decide)
              refine g_aload_n C 0 dX12_eaters_161 rfl rfl ?_
              refine g_getR C K hLx hkx f_12_51 hb_1 dX12_eaters_162 ?_
              refine g_iload C 5 dX12_eaters_165 rfl ?_
              refine g_dup2 C dX12_eaters_167 rfl rfl ?_
              obtain ⟨x_154, hx_154, rx_154⟩ := ex_any (z0 := I_110 b_1 (v_119.toNatClampNeg))
              refine h_iald C K hb_1L hb_1k (v := x_154) (v_119.toNatClampNeg) (rfl) (ix_0 r_145 (by decide)) (ix_lt r_145 (by decide) hb_1n (by decide)) hx_154 dX12_eaters_168 ?_
              refine g_iconst C (v := 1) dX12_eaters_169 (by decide) ?_
              obtain ⟨x_155, hx_155, rx_155⟩ := ex_any (z0 := x_154 + 1)
              refine g_iadd C (v := x_155) dX12_eaters_170 hx_155 ?_
              refine h_iast C K hb_1L hb_1k (v_119.toNatClampNeg) (rfl) (ix_0 r_145 (by decide)) (ix_lt r_145 (by decide) hb_1n (by decide)) dX12_eaters_171 (fun I_156 hI_156 => ?_)
              have hU_157 := iw_put W9 hU_112 hI_156 (ro_a hb_1k (by decide) hb_1o hkx rfl) (lo := (-2147483648)) (hi := 2147483647) (rfl) (rx_155) rfl
              have hF_158 := fq_puta hF_113 hI_156 (ro_a hb_1k (by decide) hb_1o hkx rfl) (by decide) (by decide)
              refine g_lo (is := [0, 1, 2, 3, 4, 5]) (lo2 := [(0, .ref x), (1, .int v_115), (2, .int v_116), (3, .int v_117), (4, .int v_118), (5, .int v_119)]) rfl ?_
              exact j_172 I_156 J_111 hU_157 hF_158 hG_114 v_115 v_116 (rv_116) v_117 (rv_117) v_118 (rv_118) v_119 (r_145) v_120 (rv_120) (kp_k (κ := κ) hI_156 (by rw [hkx, hb_1k]; decide) q_121) (kp_k (κ := κ) hI_156 (by rw [hkx, hb_1k]; decide) q_122) (kp_r hI_156 (ro_a hb_2k (by decide) hb_2o hkx rfl) (ro_a hb_1k (by decide) hb_1o hkx rfl) (by decide) q_123) hm_124 hm_125
      have l_82 : ∀ (n_82 : Nat) (I_159 : Nat → Nat → Int32) (J_160 : Nat → Nat → Int64) (hU_161 : Iw L κ R ow I_159) (hF_162 : Fq L κ ow [1200, 1202, 1232, 1233, 85100] I I_159) (hG_163 : Fq L κ ow [] J J_160) (v_164 : Int32) (v_165 : Int32) (rv_165 : Rg 0 127 v_165) (v_166 : Int32) (rv_166 : Rg 0 127 v_166) (v_167 : Int32) (v_168 : Int32) (rv_168 : Rg 0 7 v_168) (v_169 : Int32) (rv_169 : Rg 0 5 v_169) (q_170 : I_159 x 0 = 0) (q_171 : I_159 x 2 = 0) (q_172 : I_159 b_2 0 = v_169) (hm_173 : 128 < (v_166 : Int32).toInt + ((n_64 + 1 : Nat) : Int)) (hm_174 : 7 < (v_168 : Int32).toInt + (n_82 : Int)), WG p l e { frames := 2, cells := 0, slots := 0, locals := 43 } s m ([.ref x] : List Value).toArray below meth c 6 0 0 (MQ below (Qi_ D cy L κ ln R (fun r I2 J2 => Iw L κ R ow I2 ∧ Fq L κ ow [1200, 1202, 1232, 1233, 85100] I I2 ∧ Fq L κ ow [] J J2 ∧ Rg (-2147483648) 2147483647 r ∧ ((I2 x 2) = 0))) ([.ref x] : List Value).toArray s 0 0 (Al_ L)) D cy (Al_ L) s.heap L κ ln R I_159 J_160 82 [(0, .ref x), (1, .int v_164), (2, .int v_165), (3, .int v_166), (4, .int v_167), (5, .int v_168)] [] := by
        intro n_82
        induction n_82 with
        | zero =>
          intro I_159 J_160 hU_161 hF_162 hG_163 v_164 v_165 rv_165 v_166 rv_166 v_167 v_168 rv_168 v_169 rv_169 q_170 q_171 q_172 hm_173 hm_174
          exact ms_0 rv_168 hm_174
        | succ n_82 ih_82 =>
          intro I_159 J_160 hU_161 hF_162 hG_163 v_164 v_165 rv_165 v_166 rv_166 v_167 v_168 rv_168 v_169 rv_169 q_170 q_171 q_172 hm_173 hm_174
          have j_115 : ∀ (I_175 : Nat → Nat → Int32) (J_176 : Nat → Nat → Int64) (hU_177 : Iw L κ R ow I_175) (hF_178 : Fq L κ ow [1200, 1202, 1232, 1233, 85100] I I_175) (hG_179 : Fq L κ ow [] J J_176) (v_180 : Int32) (v_181 : Int32) (rv_181 : Rg 0 127 v_181) (v_182 : Int32) (rv_182 : Rg 0 127 v_182) (v_183 : Int32) (v_184 : Int32) (rv_184 : Rg 0 6 v_184) (v_185 : Int32) (rv_185 : Rg 0 5 v_185) (q_186 : I_175 x 0 = 0) (q_187 : I_175 x 2 = 0) (q_188 : I_175 b_2 0 = v_185) (hm_189 : 128 < (v_182 : Int32).toInt + ((n_64 + 1 : Nat) : Int)) (hm_190 : 7 < (v_184 : Int32).toInt + ((n_82 + 1 : Nat) : Int)), WG p l e { frames := 2, cells := 0, slots := 0, locals := 43 } s m ([.ref x] : List Value).toArray below meth c 6 0 0 (MQ below (Qi_ D cy L κ ln R (fun r I2 J2 => Iw L κ R ow I2 ∧ Fq L κ ow [1200, 1202, 1232, 1233, 85100] I I2 ∧ Fq L κ ow [] J J2 ∧ Rg (-2147483648) 2147483647 r ∧ ((I2 x 2) = 0))) ([.ref x] : List Value).toArray s 0 0 (Al_ L)) D cy (Al_ L) s.heap L κ ln R I_175 J_176 115 [(0, .ref x), (1, .int v_180), (2, .int v_181), (3, .int v_182), (4, .int v_183), (5, .int v_184)] [] := by
            intro I_175 J_176 hU_177 hF_178 hG_179 v_180 v_181 rv_181 v_182 rv_182 v_183 v_184 rv_184 v_185 rv_185 q_186 q_187 q_188 hm_189 hm_190
            obtain ⟨x_191, hx_191, rx_191, tx_191⟩ := ex_add (y := 1) 1 7 rv_184 rc_1 (by decide) (by decide) (by decide) (by decide)
            refine g_iinc C dX12_eaters_115 (k := 5) (v := x_191) rfl hx_191 (by decide) (lo2 := [(5, .int x_191), (0, .ref x), (1, .int v_180), (2, .int v_181), (3, .int v_182), (4, .int v_183)]) rfl ?_
            refine g_goto C (tgt := 82) dX12_eaters_118 (by decide) ?_
            refine g_lo (is := [1, 2, 3, 4, 5, 0]) (lo2 := [(0, .ref x), (1, .int v_180), (2, .int v_181), (3, .int v_182), (4, .int v_183), (5, .int x_191)]) rfl ?_
            exact ih_82 I_175 J_176 hU_177 hF_178 hG_179 v_180 v_181 (rv_181) v_182 (rv_182) v_183 x_191 (rg_w rx_191 (by decide) (by decide)) v_185 (rv_185) q_186 q_187 q_188 hm_189 (ms_1 hm_190 (ti_k tx_191 rc_1) (by decide))
          refine g_iload C 5 dX12_eaters_82 rfl ?_
          refine g_bipush C (v := 7) dX12_eaters_84 (by decide) ?_
          refine g_icmp_ge C (tgt := 121) dX12_eaters_86 (by decide) (fun h_192 => ?_) (fun h_192 => ?_)
          · skip
            have r_193 := le_r (h_192) rc_7 rv_168
            refine g_iload C 4 dX12_eaters_121 rfl ?_
            refine g_aload_n C 0 dX12_eaters_123 rfl rfl ?_
            refine g_getR C K hLx hkx f_12_7 hb_2 dX12_eaters_124 ?_
            refine g_iconst C (v := 1) dX12_eaters_127 (by decide) ?_
            obtain ⟨x_194, hx_194, rx_194⟩ := ex_getw (I := I_159) (a := b_2) (j := 1) (lo := 0) (hi := 255) hU_161.1 hb_2L (ro_a hb_2k (by decide) hb_2o hkx rfl) (rfl)
            refine h_iald C K hb_2L hb_2k (v := x_194) (1) (by decide) (by decide) (by rw [hb_2n]; decide) hx_194 dX12_eaters_128 ?_
            refine g_icmp_eq C (tgt := 135) dX12_eaters_129 (by decide) (fun h_195 => ?_) (fun h_195 => ?_)
            · skip
              have r_196 := (⟨(eq_rg (h_195) rx_194).1, (eq_rg (h_195) rx_194).2⟩ : Rg 0 255 v_167)
              obtain ⟨x_197, hx_197, rx_197⟩ := ex_any (z0 := v_164 + 1)
              refine g_iinc C dX12_eaters_135 (k := 1) (v := x_197) rfl hx_197 (by decide) (lo2 := [(1, .int x_197), (0, .ref x), (2, .int v_165), (3, .int v_166), (4, .int v_167), (5, .int v_168)]) rfl ?_
              refine g_iload_n C 2 dX12_eaters_138 rfl rfl ?_
              refine g_iload_n C 3 dX12_eaters_139 rfl rfl ?_
              obtain ⟨x_198, hx_198, rx_198⟩ := ex_andl (x := v_165) (y := v_166) (b := 127) (rv_165)
              refine g_iand C (v := x_198) dX12_eaters_140 hx_198 ?_
              refine g_istore_n C dX12_eaters_141 rfl (by decide) (lo2 := [(2, .int x_198), (1, .int x_197), (0, .ref x), (3, .int v_166), (4, .int v_167), (5, .int v_168)]) rfl ?_
              refine g_iconst C (v := 0) dX12_eaters_142 (by decide) ?_
              refine g_istore C dX12_eaters_143 (by decide) (lo2 := [(5, .int 0), (2, .int x_198), (1, .int x_197), (0, .ref x), (3, .int v_166), (4, .int v_167)]) rfl ?_
              refine g_lo (is := [3, 2, 1, 4, 5, 0]) (lo2 := [(0, .ref x), (1, .int x_197), (2, .int x_198), (3, .int v_166), (4, .int v_167), (5, .int 0)]) rfl ?_
              exact l_145 8 I_159 J_160 hU_161 hF_162 hG_163 x_197 x_198 (rx_198) v_166 (rv_166) v_167 (r_196) 0 (rg_w rc_0 (by decide) (by decide)) v_169 (rv_169) q_170 q_171 q_172 hm_173 (ms_s (a := 0) (b := 7) (N := 8) (rg_w rc_0 (by decide) (by decide)) (by decide))
            · skip
              refine g_goto C (tgt := 178) dX12_eaters_132 (by decide) ?_
              refine g_lo (is := [0, 1, 2, 3, 4, 5]) (lo2 := [(0, .ref x), (1, .int v_164), (2, .int v_165), (3, .int v_166), (4, .int v_167), (5, .int v_168)]) rfl ?_
              exact j_178 I_159 J_160 hU_161 hF_162 hG_163 v_164 v_165 (rv_165) v_166 (rv_166) v_167 v_168 (r_193) v_169 (rv_169) q_170 q_171 q_172 hm_173
          · skip
            have r_199 := lt_l (hi := 6) (nle h_192) rv_168 rc_7 (by decide)
            refine g_iload_n C 3 dX12_eaters_89 rfl rfl ?_
            refine g_iload C 5 dX12_eaters_90 rfl ?_
            refine g_callSI C K (c_X12_has W9 v_166 v_168  hU_161) s_12_231 rfl ⟨rfl, rfl⟩ ⟨Nat.le_of_ble_eq_true rfl, Nat.le_of_ble_eq_true rfl⟩ (Nat.le_of_ble_eq_true rfl) ⟨Nat.le_of_ble_eq_true rfl, Nat.le_of_ble_eq_true rfl⟩ dX12_eaters_92 rfl (st := []) (fun x_200 I_201 J_202 h_203 => ?_)
            obtain ⟨rfl, rfl, rx_200, ex_200⟩ := h_203
            refine g_if_eq C (tgt := 115) dX12_eaters_95 (by decide) (fun h_204 => ?_) (fun h_204 => ?_)
            · skip
              have r_205 := (⟨(rx_200).1, (eq_rg (h_204) rc_0).2⟩ : Rg 0 0 x_200)
              refine g_lo (is := [0, 1, 2, 3, 4, 5]) (lo2 := [(0, .ref x), (1, .int v_164), (2, .int v_165), (3, .int v_166), (4, .int v_167), (5, .int v_168)]) rfl ?_
              exact j_115 I_159 J_160 hU_161 hF_162 hG_163 v_164 v_165 (rv_165) v_166 (rv_166) v_167 v_168 (r_199) v_169 (rv_169) q_170 q_171 q_172 hm_173 hm_174
            · skip
              have n_206 : ¬ x_200 = 0 := h_204
              have r_207 := ne_lo (lo := 1) n_206 rx_200 rc_0 rfl (by decide)
              refine g_iload C 4 dX12_eaters_98 rfl ?_
              refine g_aload_n C 0 dX12_eaters_100 rfl rfl ?_
              refine g_iload C 5 dX12_eaters_101 rfl ?_
              refine g_aload_n C 0 dX12_eaters_103 rfl rfl ?_
              refine g_getR C K hLx hkx f_12_7 hb_2 dX12_eaters_104 ?_
              refine g_iconst C (v := 0) dX12_eaters_107 (by decide) ?_
              refine h_iald C K hb_2L hb_2k (v := v_169) (0) (by decide) (by decide) (by rw [hb_2n]; decide) q_172 dX12_eaters_108 ?_
              refine g_callVI C K (c_X12_onPlate W9 hLx hkx v_168 v_169 (r_199) (rv_169) hU_161) hLx hkx (by decide) rfl v_12_234 rfl ⟨rfl, rfl⟩ ⟨Nat.le_of_ble_eq_true rfl, Nat.le_of_ble_eq_true rfl⟩ (Nat.le_of_ble_eq_true rfl) ⟨Nat.le_of_ble_eq_true rfl, Nat.le_of_ble_eq_true rfl⟩ dX12_eaters_109 rfl (st := [.int v_167]) (fun x_209 I_210 J_211 h_212 => ?_)
              obtain ⟨rfl, rfl, rx_209, ex_209⟩ := h_212
              obtain ⟨x_213, hx_213, rx_213⟩ := ex_any (z0 := v_167 + x_209)
              refine g_iadd C (v := x_213) dX12_eaters_112 hx_213 ?_
              refine g_istore C dX12_eaters_113 (by decide) (lo2 := [(4, .int x_213), (0, .ref x), (1, .int v_164), (2, .int v_165), (3, .int v_166), (5, .int v_168)]) rfl ?_
              refine g_lo (is := [1, 2, 3, 4, 0, 5]) (lo2 := [(0, .ref x), (1, .int v_164), (2, .int v_165), (3, .int v_166), (4, .int x_213), (5, .int v_168)]) rfl ?_
              exact j_115 I_159 J_160 hU_161 hF_162 hG_163 v_164 v_165 (rv_165) v_166 (rv_166) x_213 v_168 (r_199) v_169 (rv_169) q_170 q_171 q_172 hm_173 hm_174
      refine g_iload_n C 3 dX12_eaters_64 rfl rfl ?_
      refine g_iconst C (v := 1) dX12_eaters_65 (by decide) ?_
      refine g_aload_n C 0 dX12_eaters_66 rfl rfl ?_
      refine g_getR C K hLx hkx f_12_13 hb_3 dX12_eaters_67 ?_
      refine g_iconst C (v := 0) dX12_eaters_70 (by decide) ?_
      obtain ⟨x_214, hx_214, rx_214⟩ := ex_getw (I := I_81) (a := b_3) (j := 0) (lo := 0) (hi := 7) hU_83.1 hb_3L (ro_a hb_3k (by decide) hb_3o hkx rfl) (by decide)
      refine h_iald C K hb_3L hb_3k (v := x_214) (0) (by decide) (by decide) (by rw [hb_3n]; decide) hx_214 dX12_eaters_71 ?_
      obtain ⟨x_215, hx_215, rx_215⟩ := ex_shl (x := 1) (y := x_214) 7 128 rfl (rx_214) (by decide)
      refine g_ishl C (v := x_215) dX12_eaters_72 hx_215 ?_
      refine g_icmp_ge C (tgt := 184) dX12_eaters_73 (by decide) (fun h_216 => ?_) (fun h_216 => ?_)
      · skip
        have r_217 := le_r (h_216) rx_215 rv_88
        refine g_iload_n C 1 dX12_eaters_184 rfl rfl ?_
        refine g_if_ne C (tgt := 190) dX12_eaters_185 (by decide) (fun h_218 => ?_) (fun h_218 => ?_)
        · skip
          have n_219 : ¬ v_86 = 0 := h_218
          refine g_aload_n C 0 dX12_eaters_190 rfl rfl ?_
          refine g_iload_n C 2 dX12_eaters_191 rfl rfl ?_
          refine h_putI C K hLx hkx f_12_54 p_12_32 dX12_eaters_192 (fun I_220 hI_220 => ?_)
          have hU_221 := iw_put W9 hU_83 hI_220 (ro_o hkx (by decide)) (lo := (-2147483648)) (hi := 2147483647) (rfl) (rg_all _) rfl
          have hF_222 := fq_puto hF_84 hI_220 hkx (by decide) (by decide)
          refine g_aload_n C 0 dX12_eaters_195 rfl rfl ?_
          refine g_iconst C (v := (-1)) dX12_eaters_196 (by decide) ?_
          refine h_putI C K hLx hkx f_12_58 p_12_33 dX12_eaters_197 (fun I_223 hI_223 => ?_)
          have hU_224 := iw_put W9 hU_221 hI_223 (ro_o hkx (by decide)) (lo := (-2147483648)) (hi := 2147483647) (rfl) (rg_all _) rfl
          have hF_225 := fq_puto hF_222 hI_223 hkx (by decide) (by decide)
          refine g_iconst C (v := 0) dX12_eaters_200 (by decide) ?_
          refine g_istore_n C dX12_eaters_201 rfl (by decide) (lo2 := [(3, .int 0), (0, .ref x), (1, .int v_86), (2, .int v_87)]) rfl ?_
          refine g_lo (is := [1, 2, 3, 0]) (lo2 := [(0, .ref x), (1, .int v_86), (2, .int v_87), (3, .int 0)]) rfl ?_
          exact l_202 8 I_223 J_82 hU_224 hF_225 hG_85 v_86 (n_219) v_87 (rv_87) 0 (rg_w rc_0 (by decide) (by decide)) (-1) (rg_w rc_m1 (by decide) (by decide)) v_89 (rv_89) (kp_j hI_223 (by decide) (kp_j hI_220 (by decide) q_90)) (kp_j hI_223 (by decide) (kp_j hI_220 (by decide) q_91)) (kp_j hI_223 (by decide) (kp_s hI_220)) (kp_s hI_223) (kp_k (κ := κ) hI_223 (by rw [hb_2k, hkx]; decide) (kp_k (κ := κ) hI_220 (by rw [hb_2k, hkx]; decide) q_92)) (ms_s (a := 0) (b := 7) (N := 8) (rg_w rc_0 (by decide) (by decide)) (by decide))
        · skip
          have r_226 := (⟨(eq_rg (h_218) rc_0).1, (eq_rg (h_218) rc_0).2⟩ : Rg 0 0 v_86)
          refine g_iconst C (v := 0) dX12_eaters_188 (by decide) ?_
          exact g_zret (ty := .int) (r := 0) B K rfl (rfl) ⟨hU_83, hF_84, hG_85, rg_all _, (q_91)⟩ dX12_eaters_189
      · skip
        have r_227 := lt_l (hi := 127) (nle h_216) rv_88 rx_215 (by decide)
        refine g_iconst C (v := 0) dX12_eaters_76 (by decide) ?_
        refine g_istore C dX12_eaters_77 (by decide) (lo2 := [(4, .int 0), (0, .ref x), (1, .int v_86), (2, .int v_87), (3, .int v_88)]) rfl ?_
        refine g_iconst C (v := 0) dX12_eaters_79 (by decide) ?_
        refine g_istore C dX12_eaters_80 (by decide) (lo2 := [(5, .int 0), (4, .int 0), (0, .ref x), (1, .int v_86), (2, .int v_87), (3, .int v_88)]) rfl ?_
        refine g_lo (is := [2, 3, 4, 5, 1, 0]) (lo2 := [(0, .ref x), (1, .int v_86), (2, .int v_87), (3, .int v_88), (4, .int 0), (5, .int 0)]) rfl ?_
        exact l_82 8 I_81 J_82 hU_83 hF_84 hG_85 v_86 v_87 (rv_87) v_88 (r_227) 0 0 (rg_w rc_0 (by decide) (by decide)) v_89 (rv_89) q_90 q_91 q_92 hm_93 (ms_s (a := 0) (b := 7) (N := 8) (rg_w rc_0 (by decide) (by decide)) (by decide))
  have l_43 : ∀ (n_43 : Nat) (I_228 : Nat → Nat → Int32) (J_229 : Nat → Nat → Int64) (hU_230 : Iw L κ R ow I_228) (hF_231 : Fq L κ ow [1200, 1202, 1232, 1233, 85100] I I_228) (hG_232 : Fq L κ ow [] J J_229) (v_233 : Int32) (rv_233 : Rg 0 127 v_233) (v_234 : Int32) (rv_234 : Rg 0 7 v_234) (v_235 : Int32) (rv_235 : Rg 0 5 v_235) (q_236 : I_228 x 0 = 0) (q_237 : I_228 x 2 = 0) (q_238 : I_228 b_2 0 = v_235) (hm_239 : 7 < (v_234 : Int32).toInt + (n_43 : Int)), WG p l e { frames := 2, cells := 0, slots := 0, locals := 43 } s m ([.ref x] : List Value).toArray below meth c 6 0 0 (MQ below (Qi_ D cy L κ ln R (fun r I2 J2 => Iw L κ R ow I2 ∧ Fq L κ ow [1200, 1202, 1232, 1233, 85100] I I2 ∧ Fq L κ ow [] J J2 ∧ Rg (-2147483648) 2147483647 r ∧ ((I2 x 2) = 0))) ([.ref x] : List Value).toArray s 0 0 (Al_ L)) D cy (Al_ L) s.heap L κ ln R I_228 J_229 43 [(0, .ref x), (1, .int 0), (2, .int v_233), (3, .int v_234)] [] := by
    intro n_43
    induction n_43 with
    | zero =>
      intro I_228 J_229 hU_230 hF_231 hG_232 v_233 rv_233 v_234 rv_234 v_235 rv_235 q_236 q_237 q_238 hm_239
      exact ms_0 rv_234 hm_239
    | succ n_43 ih_43 =>
      intro I_228 J_229 hU_230 hF_231 hG_232 v_233 rv_233 v_234 rv_234 v_235 rv_235 q_236 q_237 q_238 hm_239
      refine g_iload_n C 3 dX12_eaters_43 rfl rfl ?_
      refine g_bipush C (v := 7) dX12_eaters_44 (by decide) ?_
      refine g_icmp_ge C (tgt := 62) dX12_eaters_46 (by decide) (fun h_240 => ?_) (fun h_240 => ?_)
      · skip
        have r_241 := le_r (h_240) rc_7 rv_234
        refine g_iconst C (v := 0) dX12_eaters_62 (by decide) ?_
        refine g_istore_n C dX12_eaters_63 rfl (by decide) (lo2 := [(3, .int 0), (0, .ref x), (1, .int 0), (2, .int v_233)]) rfl ?_
        refine g_lo (is := [1, 2, 3, 0]) (lo2 := [(0, .ref x), (1, .int 0), (2, .int v_233), (3, .int 0)]) rfl ?_
        exact l_64 129 I_228 J_229 hU_230 hF_231 hG_232 0 v_233 (rv_233) 0 (rg_w rc_0 (by decide) (by decide)) v_235 (rv_235) q_236 q_237 q_238 (ms_s (a := 0) (b := 128) (N := 129) (rg_w rc_0 (by decide) (by decide)) (by decide))
      · skip
        have r_242 := lt_l (hi := 6) (nle h_240) rv_234 rc_7 (by decide)
        refine g_aload_n C 0 dX12_eaters_49 rfl rfl ?_
        refine g_getR C K hLx hkx f_12_51 hb_1 dX12_eaters_50 ?_
        refine g_iload_n C 3 dX12_eaters_53 rfl rfl ?_
        refine g_iconst C (v := 0) dX12_eaters_54 (by decide) ?_
        refine h_iast C K hb_1L hb_1k (v_234.toNatClampNeg) (rfl) (ix_0 r_242 (by decide)) (ix_lt r_242 (by decide) hb_1n (by decide)) dX12_eaters_55 (fun I_243 hI_243 => ?_)
        have hU_244 := iw_put W9 hU_230 hI_243 (ro_a hb_1k (by decide) hb_1o hkx rfl) (lo := (-2147483648)) (hi := 2147483647) (rfl) (rg_all _) rfl
        have hF_245 := fq_puta hF_231 hI_243 (ro_a hb_1k (by decide) hb_1o hkx rfl) (by decide) (by decide)
        obtain ⟨x_246, hx_246, rx_246, tx_246⟩ := ex_add (y := 1) 1 7 r_242 rc_1 (by decide) (by decide) (by decide) (by decide)
        refine g_iinc C dX12_eaters_56 (k := 3) (v := x_246) rfl hx_246 (by decide) (lo2 := [(3, .int x_246), (0, .ref x), (1, .int 0), (2, .int v_233)]) rfl ?_
        refine g_goto C (tgt := 43) dX12_eaters_59 (by decide) ?_
        refine g_lo (is := [1, 2, 3, 0]) (lo2 := [(0, .ref x), (1, .int 0), (2, .int v_233), (3, .int x_246)]) rfl ?_
        exact ih_43 I_243 J_229 hU_244 hF_245 hG_232 v_233 (rv_233) x_246 (rg_w rx_246 (by decide) (by decide)) v_235 (rv_235) (kp_k (κ := κ) hI_243 (by rw [hkx, hb_1k]; decide) q_236) (kp_k (κ := κ) hI_243 (by rw [hkx, hb_1k]; decide) q_237) (kp_r hI_243 (ro_a hb_2k (by decide) hb_2o hkx rfl) (ro_a hb_1k (by decide) hb_1o hkx rfl) (by decide) q_238) (ms_1 hm_239 (ti_k tx_246 rc_1) (by decide))
  refine g_aload_n C 0 dX12_eaters_0 rfl rfl ?_
  refine g_iconst C (v := 0) dX12_eaters_1 (by decide) ?_
  refine h_putI C K hLx hkx f_12_82 p_12_0 dX12_eaters_2 (fun I_247 hI_247 => ?_)
  have hU_248 := iw_put W9 hU hI_247 (ro_o hkx (by decide)) (lo := (-2147483648)) (hi := 2147483647) (rfl) (rg_all _) rfl
  have hF_249 := fq_puto hF hI_247 hkx (by decide) (by decide)
  refine g_aload_n C 0 dX12_eaters_5 rfl rfl ?_
  refine g_callVI C K (c_X12_take_e W9 hLx hkx   hU_248) hLx hkx (by decide) rfl v_12_162 rfl ⟨rfl, rfl⟩ ⟨Nat.le_of_ble_eq_true rfl, Nat.le_of_ble_eq_true rfl⟩ (Nat.le_of_ble_eq_true rfl) ⟨Nat.le_of_ble_eq_true rfl, Nat.le_of_ble_eq_true rfl⟩ dX12_eaters_6 rfl (st := []) (fun x_250 I_251 J_252 h_253 => ?_)
  obtain ⟨hUI_251, hFI_251, hGJ_252, rx_250, fx_250, ex_250⟩ := h_253
  have hF_254 := fq_tr hF_249 hFI_251 (by decide)
  have hG_255 := fq_tr hG hGJ_252 (by decide)
  refine g_iconst C (v := 2) dX12_eaters_9 (by decide) ?_
  refine g_icmp_ne C (tgt := 26) dX12_eaters_10 (by decide) (fun h_256 => ?_) (fun h_256 => ?_)
  · skip
    have n_257 : ¬ x_250 = 2 := h_256
    refine g_iconst C (v := (-1)) dX12_eaters_26 (by decide) ?_
    exact g_zret (ty := .int) (r := (-1)) B K rfl (rfl) ⟨hUI_251, hF_254, hG_255, rg_all _, (ex_250)⟩ dX12_eaters_27
  · skip
    have r_258 := (⟨(eq_rg (h_256) rc_2).1, (eq_rg (h_256) rc_2).2⟩ : Rg 2 2 x_250)
    refine g_aload_n C 0 dX12_eaters_13 rfl rfl ?_
    refine g_aload_n C 0 dX12_eaters_14 rfl rfl ?_
    refine g_getR C K hLx hkx f_12_7 hb_2 dX12_eaters_15 ?_
    refine g_iconst C (v := 0) dX12_eaters_18 (by decide) ?_
    obtain ⟨x_259, hx_259, rx_259⟩ := ex_getw (I := I_251) (a := b_2) (j := 0) (lo := 0) (hi := 255) hUI_251.1 hb_2L (ro_a hb_2k (by decide) hb_2o hkx rfl) (rfl)
    refine h_iald C K hb_2L hb_2k (v := x_259) (0) (by decide) (by decide) (by rw [hb_2n]; decide) hx_259 dX12_eaters_19 ?_
    refine g_callVI C K (c_X12_isDish W9 hLx hkx x_259  hUI_251) hLx hkx (by decide) rfl v_12_250 rfl ⟨rfl, rfl⟩ ⟨Nat.le_of_ble_eq_true rfl, Nat.le_of_ble_eq_true rfl⟩ (Nat.le_of_ble_eq_true rfl) ⟨Nat.le_of_ble_eq_true rfl, Nat.le_of_ble_eq_true rfl⟩ dX12_eaters_20 rfl (st := []) (fun x_260 I_261 J_262 h_263 => ?_)
    obtain ⟨rfl, rfl, rx_260, ex_260⟩ := h_263
    refine g_if_ne C (tgt := 28) dX12_eaters_23 (by decide) (fun h_264 => ?_) (fun h_264 => ?_)
    · skip
      have n_265 : ¬ x_260 = 0 := h_264
      have r_266 := ne_lo (lo := 1) n_265 rx_260 rc_0 rfl (by decide)
      have r_267 := rg_i rx_259 ((ex_260) n_265) (lo := 0) (hi := 5) (by decide) (by decide)
      refine g_iconst C (v := 0) dX12_eaters_28 (by decide) ?_
      refine g_istore_n C dX12_eaters_29 rfl (by decide) (lo2 := [(1, .int 0), (0, .ref x)]) rfl ?_
      refine g_iconst C (v := 1) dX12_eaters_30 (by decide) ?_
      refine g_aload_n C 1 dX12_eaters_31 rfl rfl ?_
      refine g_getR C K hLx hkx f_12_13 hb_3 dX12_eaters_32 ?_
      refine g_iconst C (v := 0) dX12_eaters_35 (by decide) ?_
      obtain ⟨x_268, hx_268, rx_268⟩ := ex_getw (I := I_251) (a := b_3) (j := 0) (lo := 0) (hi := 7) hUI_251.1 hb_3L (ro_a hb_3k (by decide) hb_3o hkx rfl) (by decide)
      refine h_iald C K hb_3L hb_3k (v := x_268) (0) (by decide) (by decide) (by rw [hb_3n]; decide) hx_268 dX12_eaters_36 ?_
      obtain ⟨x_269, hx_269, rx_269⟩ := ex_shl (x := 1) (y := x_268) 7 128 rfl (rx_268) (by decide)
      refine g_ishl C (v := x_269) dX12_eaters_37 hx_269 ?_
      refine g_iconst C (v := 1) dX12_eaters_38 (by decide) ?_
      obtain ⟨x_270, hx_270, rx_270, tx_270⟩ := ex_sub 0 127 rx_269 rc_1 (by decide) (by decide) (by decide) (by decide)
      refine g_isub C (v := x_270) dX12_eaters_39 hx_270 ?_
      refine g_istore_n C dX12_eaters_40 rfl (by decide) (lo2 := [(2, .int x_270), (1, .int 0), (0, .ref x)]) rfl ?_
      refine g_iconst C (v := 0) dX12_eaters_41 (by decide) ?_
      refine g_istore_n C dX12_eaters_42 rfl (by decide) (lo2 := [(3, .int 0), (2, .int x_270), (1, .int 0), (0, .ref x)]) rfl ?_
      refine g_lo (is := [3, 2, 1, 0]) (lo2 := [(0, .ref x), (1, .int 0), (2, .int x_270), (3, .int 0)]) rfl ?_
      exact l_43 8 I_251 J_252 hUI_251 hF_254 hG_255 x_270 (rx_270) 0 (rg_w rc_0 (by decide) (by decide)) x_259 (r_267) (fq_at hFI_251 hLx hkx (by decide) (by decide) (kp_s hI_247)) ex_250 hx_259 (ms_s (a := 0) (b := 7) (N := 8) (rg_w rc_0 (by decide) (by decide)) (by decide))
    · skip
      have r_271 := (⟨(rx_260).1, (eq_rg (h_264) rc_0).2⟩ : Rg 0 0 x_260)
      refine g_iconst C (v := (-1)) dX12_eaters_26 (by decide) ?_
      exact g_zret (ty := .int) (r := (-1)) B K rfl (rfl) ⟨hUI_251, hF_254, hG_255, rg_all _, (ex_250)⟩ dX12_eaters_27
set_option maxRecDepth 100000 in
set_option maxHeartbeats 8000000 in
theorem c_X12_left_e {l : Launch} {D : va_G} {cy : Nat → ClassId} {L : List Nat} {κ ln : Nat → Nat} {R : Nat → Nat → Option Nat} {I : Nat → Nat → Int32} {J : Nat → Nat → Int64} {ow : Nat → Nat × Nat} (W9 : ∀ a ∈ L, Shp L κ ln R ow a) {x : Nat} (hLx : x ∈ L) (hkx : κ x = 12) (a0 : Int32) (hU : Iw L κ R ow I) : CtI l yX12_left cX12_left 4 (some .int) { frames := 5, cells := 0, slots := 0, locals := 120 } D cy L κ ln R I J [.ref x, .int a0] (fun r I2 J2 => Iw L κ R ow I2 ∧ Fq L κ ow [1200, 1202, 83400, 83800] I I2 ∧ Fq L κ ow [] J J2 ∧ Rg (-1) 2274 r ∧ (Hd_ R x I I2) ∧ ((I2 x 2) = 0)) := by
  refine CtI.of (by decide +kernel) (Nat.le_of_ble_eq_true rfl) ?_
  intro p e s m below meth c B K
  have C := B.1
  have hF : Fq L κ ow [1200, 1202, 83400, 83800] I I := fq_rf
  have hG : Fq L κ ow [] J J := fq_rf
  obtain ⟨b_1, hb_1, hb_1L, hb_1k, hb_1n, hb_1o⟩ := shp_a (W9 x hLx) hkx 1 14 940 rfl (by decide)
  refine g_lo (is := [0, 1]) (lo2 := [(0, .ref x), (1, .int a0)]) rfl ?_
  have l_64 : ∀ (n_64 : Nat) (I_2 : Nat → Nat → Int32) (J_3 : Nat → Nat → Int64) (hU_4 : Iw L κ R ow I_2) (hF_5 : Fq L κ ow [1200, 1202, 83400, 83800] I I_2) (hG_6 : Fq L κ ow [] J J_3) (r_7 : Rg 0 6 a0) (v_8 : Int32) (rv_8 : Rg 1 7 v_8) (v_9 : Int32) (rv_9 : Rg 0 7 v_9) (q_10 : I_2 x 0 = 0) (q_11 : I_2 x 2 = 0) (hd_12 : Hd_ R x I I_2) (ga_13 : Ga_ R x I_2) (hj_14 : ∀ j : Nat, (j : Int) < v_8.toInt → Rg 0 6 (I_2 b_1 j)) (hm_15 : 7 < (v_9 : Int32).toInt + (n_64 : Int)), WG p l e { frames := 5, cells := 0, slots := 0, locals := 120 } s m ([.ref x, .int a0] : List Value).toArray below meth c 4 0 0 (MQ below (Qi_ D cy L κ ln R (fun r I2 J2 => Iw L κ R ow I2 ∧ Fq L κ ow [1200, 1202, 83400, 83800] I I2 ∧ Fq L κ ow [] J J2 ∧ Rg (-1) 2274 r ∧ (Hd_ R x I I2) ∧ ((I2 x 2) = 0))) ([.ref x, .int a0] : List Value).toArray s 0 0 (Al_ L)) D cy (Al_ L) s.heap L κ ln R I_2 J_3 64 [(0, .ref x), (1, .int a0), (2, .int v_8), (3, .int v_9)] [] := by
    intro n_64
    induction n_64 with
    | zero =>
      intro I_2 J_3 hU_4 hF_5 hG_6 r_7 v_8 rv_8 v_9 rv_9 q_10 q_11 hd_12 ga_13 hj_14 hm_15
      exact ms_0 rv_9 hm_15
    | succ n_64 ih_64 =>
      intro I_2 J_3 hU_4 hF_5 hG_6 r_7 v_8 rv_8 v_9 rv_9 q_10 q_11 hd_12 ga_13 hj_14 hm_15
      have j_95 : ∀ (I_16 : Nat → Nat → Int32) (J_17 : Nat → Nat → Int64) (hU_18 : Iw L κ R ow I_16) (hF_19 : Fq L κ ow [1200, 1202, 83400, 83800] I I_16) (hG_20 : Fq L κ ow [] J J_17) (r_21 : Rg 0 6 a0) (v_22 : Int32) (rv_22 : Rg 1 7 v_22) (v_23 : Int32) (rv_23 : Rg 0 6 v_23) (q_24 : I_16 x 0 = 0) (q_25 : I_16 x 2 = 0) (hm_26 : 7 < (v_23 : Int32).toInt + ((n_64 + 1 : Nat) : Int)) (hd_27 : Hd_ R x I I_16) (ga_28 : Ga_ R x I_16) (hj_29 : ∀ j : Nat, (j : Int) < v_22.toInt → Rg 0 6 (I_16 b_1 j)), WG p l e { frames := 5, cells := 0, slots := 0, locals := 120 } s m ([.ref x, .int a0] : List Value).toArray below meth c 4 0 0 (MQ below (Qi_ D cy L κ ln R (fun r I2 J2 => Iw L κ R ow I2 ∧ Fq L κ ow [1200, 1202, 83400, 83800] I I2 ∧ Fq L κ ow [] J J2 ∧ Rg (-1) 2274 r ∧ (Hd_ R x I I2) ∧ ((I2 x 2) = 0))) ([.ref x, .int a0] : List Value).toArray s 0 0 (Al_ L)) D cy (Al_ L) s.heap L κ ln R I_16 J_17 95 [(0, .ref x), (1, .int a0), (2, .int v_22), (3, .int v_23)] [] := by
        intro I_16 J_17 hU_18 hF_19 hG_20 r_21 v_22 rv_22 v_23 rv_23 q_24 q_25 hm_26 hd_27 ga_28 hj_29
        obtain ⟨x_30, hx_30, rx_30, tx_30⟩ := ex_add (y := 1) 1 7 rv_23 rc_1 (by decide) (by decide) (by decide) (by decide)
        refine g_iinc C dX12_left_95 (k := 3) (v := x_30) rfl hx_30 (by decide) (lo2 := [(3, .int x_30), (0, .ref x), (1, .int a0), (2, .int v_22)]) rfl ?_
        refine g_goto C (tgt := 64) dX12_left_98 (by decide) ?_
        refine g_lo (is := [1, 2, 3, 0]) (lo2 := [(0, .ref x), (1, .int a0), (2, .int v_22), (3, .int x_30)]) rfl ?_
        exact ih_64 I_16 J_17 hU_18 hF_19 hG_20 (r_21) v_22 (rv_22) x_30 (rg_w rx_30 (by decide) (by decide)) q_24 q_25 hd_27 ga_28 hj_29 (ms_1 hm_26 (ti_k tx_30 rc_1) (by decide))
      refine g_iload_n C 3 dX12_left_64 rfl rfl ?_
      refine g_iload_n C 2 dX12_left_65 rfl rfl ?_
      refine g_icmp_ge C (tgt := 101) dX12_left_66 (by decide) (fun h_31 => ?_) (fun h_31 => ?_)
      · skip
        have r_32 := le_r (h_31) rv_8 rv_9
        refine g_aload_n C 0 dX12_left_101 rfl rfl ?_
        refine g_iload_n C 1 dX12_left_102 rfl rfl ?_
        refine g_callVI C K (c_X12_plateOf W9 hLx hkx a0 (r_7) hU_4) hLx hkx (by decide) rfl v_12_247 rfl ⟨rfl, rfl⟩ ⟨Nat.le_of_ble_eq_true rfl, Nat.le_of_ble_eq_true rfl⟩ (Nat.le_of_ble_eq_true rfl) ⟨Nat.le_of_ble_eq_true rfl, Nat.le_of_ble_eq_true rfl⟩ dX12_left_103 rfl (st := []) (fun x_33 I_34 J_35 h_36 => ?_)
        obtain ⟨rfl, rfl, rx_33⟩ := h_36
        refine g_istore_n C dX12_left_106 rfl (by decide) (lo2 := [(3, .int x_33), (0, .ref x), (1, .int a0), (2, .int v_8)]) rfl ?_
        refine g_aload_n C 1 dX12_left_107 rfl rfl ?_
        refine g_callVV C K (c_X12_takeBack W9 hLx hkx   hU_4  (ga_13)) hLx hkx (by decide) rfl v_12_332 rfl ⟨rfl, rfl⟩ ⟨Nat.le_of_ble_eq_true rfl, Nat.le_of_ble_eq_true rfl⟩ (Nat.le_of_ble_eq_true rfl) ⟨Nat.le_of_ble_eq_true rfl, Nat.le_of_ble_eq_true rfl⟩ dX12_left_108 rfl (st := []) (fun I_38 J_39 h_40 => ?_)
        obtain ⟨hUI_38, hFI_38, hGJ_39, ex_37⟩ := h_40
        have hF_41 := fq_tr hF_5 hFI_38 (by decide)
        have hG_42 := fq_tr hG_6 hGJ_39 (by decide)
        refine g_iload_n C 0 dX12_left_111 rfl rfl ?_
        exact g_zret (ty := .int) (r := x_33) B K rfl (rfl) ⟨hUI_38, hF_41, hG_42, rg_w rx_33 (by decide) (by decide), (hd_t hd_12 ex_37), ((fq_at hFI_38 hLx hkx (by decide) (by decide) q_11))⟩ dX12_left_112
      · skip
        have r_43 := lt_l (hi := 6) (nle h_31) rv_9 rv_8 (by decide)
        refine g_aload_n C 0 dX12_left_69 rfl rfl ?_
        refine g_aload_n C 0 dX12_left_70 rfl rfl ?_
        refine g_getR C K hLx hkx f_12_7 hb_1 dX12_left_71 ?_
        refine g_iload_n C 3 dX12_left_74 rfl rfl ?_
        obtain ⟨x_44, hx_44, rx_44⟩ := ex_getw (I := I_2) (a := b_1) (j := v_9.toNatClampNeg) (lo := 0) (hi := 255) hU_4.1 hb_1L (ro_a hb_1k (by decide) hb_1o hkx rfl) (rfl)
        refine h_iald C K hb_1L hb_1k (v := x_44) (v_9.toNatClampNeg) (rfl) (ix_0 r_43 (by decide)) (ix_lt r_43 (by decide) hb_1n (by decide)) hx_44 dX12_left_75 ?_
        have r_45 := eq_rg (Eq.symm hx_44) (hj_14 v_9.toNatClampNeg (by rw [ix_n r_43 (by decide)]; exact Int32.lt_iff_toInt_lt.mp (nle h_31)))
        refine g_callVI C K (c_X12_isDead W9 hLx hkx x_44 (r_45) hU_4) hLx hkx (by decide) rfl v_12_244 rfl ⟨rfl, rfl⟩ ⟨Nat.le_of_ble_eq_true rfl, Nat.le_of_ble_eq_true rfl⟩ (Nat.le_of_ble_eq_true rfl) ⟨Nat.le_of_ble_eq_true rfl, Nat.le_of_ble_eq_true rfl⟩ dX12_left_76 rfl (st := []) (fun x_46 I_47 J_48 h_49 => ?_)
        obtain ⟨rfl, rfl, rx_46⟩ := h_49
        refine g_if_ne C (tgt := 95) dX12_left_79 (by decide) (fun h_50 => ?_) (fun h_50 => ?_)
        · skip
          have n_51 : ¬ x_46 = 0 := h_50
          have r_52 := ne_lo (lo := 1) n_51 rx_46 rc_0 rfl (by decide)
          refine g_lo (is := [0, 1, 2, 3]) (lo2 := [(0, .ref x), (1, .int a0), (2, .int v_8), (3, .int v_9)]) rfl ?_
          exact j_95 I_2 J_3 hU_4 hF_5 hG_6 (r_7) v_8 (rv_8) v_9 (r_43) q_10 q_11 hm_15 hd_12 ga_13 hj_14
        · skip
          have r_53 := (⟨(rx_46).1, (eq_rg (h_50) rc_0).2⟩ : Rg 0 0 x_46)
          refine g_aload_n C 0 dX12_left_82 rfl rfl ?_
          refine g_iconst C (v := 5) dX12_left_83 (by decide) ?_
          refine g_aload_n C 0 dX12_left_84 rfl rfl ?_
          refine g_getR C K hLx hkx f_12_7 hb_1 dX12_left_85 ?_
          refine g_iload_n C 3 dX12_left_88 rfl rfl ?_
          refine h_iald C K hb_1L hb_1k (v := x_44) (v_9.toNatClampNeg) (rfl) (ix_0 r_43 (by decide)) (ix_lt r_43 (by decide) hb_1n (by decide)) hx_44 dX12_left_89 ?_
          refine g_iconst C (v := 0) dX12_left_90 (by decide) ?_
          refine g_iconst C (v := 0) dX12_left_91 (by decide) ?_
          refine g_callVV C K (c_X12_live W9 hLx hkx 5 x_44 0 0 (rg_w rc_5 (by decide) (by decide)) (r_45) (rg_w rc_0 (by decide) (by decide)) (rg_w rc_0 (by decide) (by decide)) hU_4  (fun a ha => ⟨fun q => absurd q (by decide), fun q => absurd q (by decide)⟩)) hLx hkx (by decide) rfl v_12_285 rfl ⟨rfl, rfl⟩ ⟨Nat.le_of_ble_eq_true rfl, Nat.le_of_ble_eq_true rfl⟩ (Nat.le_of_ble_eq_true rfl) ⟨Nat.le_of_ble_eq_true rfl, Nat.le_of_ble_eq_true rfl⟩ dX12_left_92 rfl (st := []) (fun I_56 J_57 h_58 => ?_)
          obtain ⟨hUI_56, hFI_56, hGJ_57, ex_55⟩ := h_58
          have hF_59 := fq_tr hF_5 hFI_56 (by decide)
          have hG_60 := fq_tr hG_6 hGJ_57 (by decide)
          refine g_lo (is := [0, 1, 2, 3]) (lo2 := [(0, .ref x), (1, .int a0), (2, .int v_8), (3, .int v_9)]) rfl ?_
          exact j_95 I_56 J_57 hUI_56 hF_59 hG_60 (r_7) v_8 (rv_8) v_9 (r_43) (fq_at hFI_56 hLx hkx (by decide) (by decide) q_10) (fq_at hFI_56 hLx hkx (by decide) (by decide) q_11) hm_15 (hd_t hd_12 ex_55) (ga_mv W9 hLx hkx ga_13 ex_55 hFI_56 (by decide)) (fun j hj => eq_rg (fq_ar hFI_56 hb_1L (ro_a hb_1k (by decide) hb_1o hkx rfl) (by decide) (by decide) rfl) (hj_14 j hj))
  have l_32 : ∀ (n_32 : Nat) (I_61 : Nat → Nat → Int32) (J_62 : Nat → Nat → Int64) (hU_63 : Iw L κ R ow I_61) (hF_64 : Fq L κ ow [1200, 1202, 83400, 83800] I I_61) (hG_65 : Fq L κ ow [] J J_62) (r_66 : Rg 0 6 a0) (v_67 : Int32) (rv_67 : Rg 1 7 v_67) (v_68 : Int32) (rv_68 : Rg 0 7 v_68) (q_69 : I_61 x 0 = 0) (q_70 : I_61 x 2 = 0) (hd_71 : Hd_ R x I I_61) (hj_72 : ∀ j : Nat, (j : Int) < v_68.toInt → Rg 0 6 (I_61 b_1 j)) (hm_73 : 7 < (v_68 : Int32).toInt + (n_32 : Int)), WG p l e { frames := 5, cells := 0, slots := 0, locals := 120 } s m ([.ref x, .int a0] : List Value).toArray below meth c 4 0 0 (MQ below (Qi_ D cy L κ ln R (fun r I2 J2 => Iw L κ R ow I2 ∧ Fq L κ ow [1200, 1202, 83400, 83800] I I2 ∧ Fq L κ ow [] J J2 ∧ Rg (-1) 2274 r ∧ (Hd_ R x I I2) ∧ ((I2 x 2) = 0))) ([.ref x, .int a0] : List Value).toArray s 0 0 (Al_ L)) D cy (Al_ L) s.heap L κ ln R I_61 J_62 32 [(0, .ref x), (1, .int a0), (2, .int v_67), (3, .int v_68)] [] := by
    intro n_32
    induction n_32 with
    | zero =>
      intro I_61 J_62 hU_63 hF_64 hG_65 r_66 v_67 rv_67 v_68 rv_68 q_69 q_70 hd_71 hj_72 hm_73
      exact ms_0 rv_68 hm_73
    | succ n_32 ih_32 =>
      intro I_61 J_62 hU_63 hF_64 hG_65 r_66 v_67 rv_67 v_68 rv_68 q_69 q_70 hd_71 hj_72 hm_73
      refine g_iload_n C 3 dX12_left_32 rfl rfl ?_
      refine g_iload_n C 2 dX12_left_33 rfl rfl ?_
      refine g_icmp_ge C (tgt := 58) dX12_left_34 (by decide) (fun h_74 => ?_) (fun h_74 => ?_)
      · skip
        have r_75 := le_r (h_74) rv_67 rv_68
        refine g_aload_n C 0 dX12_left_58 rfl rfl ?_
        refine g_callVV C K (c_X12_layAside W9 hLx hkx   hU_63) hLx hkx (by decide) rfl v_12_329 rfl ⟨rfl, rfl⟩ ⟨Nat.le_of_ble_eq_true rfl, Nat.le_of_ble_eq_true rfl⟩ (Nat.le_of_ble_eq_true rfl) ⟨Nat.le_of_ble_eq_true rfl, Nat.le_of_ble_eq_true rfl⟩ dX12_left_59 rfl (st := []) (fun I_77 J_78 h_79 => ?_)
        obtain ⟨hUI_77, hFI_77, hGJ_78, ex_76⟩ := h_79
        have hF_80 := fq_tr hF_64 hFI_77 (by decide)
        have hG_81 := fq_tr hG_65 hGJ_78 (by decide)
        refine g_iconst C (v := 0) dX12_left_62 (by decide) ?_
        refine g_istore_n C dX12_left_63 rfl (by decide) (lo2 := [(3, .int 0), (0, .ref x), (1, .int a0), (2, .int v_67)]) rfl ?_
        refine g_lo (is := [1, 2, 3, 0]) (lo2 := [(0, .ref x), (1, .int a0), (2, .int v_67), (3, .int 0)]) rfl ?_
        exact l_64 8 I_77 J_78 hUI_77 hF_80 hG_81 (r_66) v_67 (rv_67) 0 (rg_w rc_0 (by decide) (by decide)) (fq_at hFI_77 hLx hkx (by decide) (by decide) q_69) (fq_at hFI_77 hLx hkx (by decide) (by decide) q_70) (hd_t hd_71 ex_76.1) ex_76.2 (fun j hj => eq_rg (fq_ar hFI_77 hb_1L (ro_a hb_1k (by decide) hb_1o hkx rfl) (by decide) (by decide) rfl) ((fun j hj => hj_72 j (Int.lt_of_lt_of_le hj (Int32.le_iff_toInt_le.mp (h_74)))) j hj)) (ms_s (a := 0) (b := 7) (N := 8) (rg_w rc_0 (by decide) (by decide)) (by decide))
      · skip
        have r_82 := lt_l (hi := 6) (nle h_74) rv_68 rv_67 (by decide)
        refine g_aload_n C 0 dX12_left_37 rfl rfl ?_
        refine g_aload_n C 0 dX12_left_38 rfl rfl ?_
        refine g_getR C K hLx hkx f_12_7 hb_1 dX12_left_39 ?_
        refine g_iload_n C 3 dX12_left_42 rfl rfl ?_
        obtain ⟨x_83, hx_83, rx_83⟩ := ex_getw (I := I_61) (a := b_1) (j := v_68.toNatClampNeg) (lo := 0) (hi := 255) hU_63.1 hb_1L (ro_a hb_1k (by decide) hb_1o hkx rfl) (rfl)
        refine h_iald C K hb_1L hb_1k (v := x_83) (v_68.toNatClampNeg) (rfl) (ix_0 r_82 (by decide)) (ix_lt r_82 (by decide) hb_1n (by decide)) hx_83 dX12_left_43 ?_
        refine g_callVI C K (c_X12_isPerson W9 hLx hkx x_83  hU_63) hLx hkx (by decide) rfl v_12_238 rfl ⟨rfl, rfl⟩ ⟨Nat.le_of_ble_eq_true rfl, Nat.le_of_ble_eq_true rfl⟩ (Nat.le_of_ble_eq_true rfl) ⟨Nat.le_of_ble_eq_true rfl, Nat.le_of_ble_eq_true rfl⟩ dX12_left_44 rfl (st := []) (fun x_84 I_85 J_86 h_87 => ?_)
        obtain ⟨rfl, rfl, rx_84, ex_84⟩ := h_87
        refine g_if_ne C (tgt := 52) dX12_left_47 (by decide) (fun h_88 => ?_) (fun h_88 => ?_)
        · skip
          have n_89 : ¬ x_84 = 0 := h_88
          have r_90 := ne_lo (lo := 1) n_89 rx_84 rc_0 rfl (by decide)
          have r_91 := rg_i rx_83 ((ex_84) n_89) (lo := 0) (hi := 6) (by decide) (by decide)
          obtain ⟨x_92, hx_92, rx_92, tx_92⟩ := ex_add (y := 1) 1 7 r_82 rc_1 (by decide) (by decide) (by decide) (by decide)
          refine g_iinc C dX12_left_52 (k := 3) (v := x_92) rfl hx_92 (by decide) (lo2 := [(3, .int x_92), (0, .ref x), (1, .int a0), (2, .int v_67)]) rfl ?_
          refine g_goto C (tgt := 32) dX12_left_55 (by decide) ?_
          refine g_lo (is := [1, 2, 3, 0]) (lo2 := [(0, .ref x), (1, .int a0), (2, .int v_67), (3, .int x_92)]) rfl ?_
          exact ih_32 I_61 J_62 hU_63 hF_64 hG_65 (r_66) v_67 (rv_67) x_92 (rg_w rx_92 (by decide) (by decide)) q_69 q_70 hd_71 (fun j hj => by by_cases q : (j : Int) < v_68.toInt; exact hj_72 j q; have q1 := ix_n r_82 (by decide); have q2 := (ti_k tx_92 rc_1); rw [show j = v_68.toNatClampNeg from by omega]; exact eq_rg hx_83 (r_91)) (ms_1 hm_73 (ti_k tx_92 rc_1) (by decide))
        · skip
          have r_93 := (⟨(rx_84).1, (eq_rg (h_88) rc_0).2⟩ : Rg 0 0 x_84)
          refine g_iconst C (v := (-1)) dX12_left_50 (by decide) ?_
          exact g_zret (ty := .int) (r := (-1)) B K rfl (rfl) ⟨hU_63, hF_64, hG_65, rg_w rc_m1 (by decide) (by decide), hd_71, (q_70)⟩ dX12_left_51
  refine g_aload_n C 0 dX12_left_0 rfl rfl ?_
  refine g_iconst C (v := 0) dX12_left_1 (by decide) ?_
  refine h_putI C K hLx hkx f_12_82 p_12_0 dX12_left_2 (fun I_94 hI_94 => ?_)
  have hU_95 := iw_put W9 hU hI_94 (ro_o hkx (by decide)) (lo := (-2147483648)) (hi := 2147483647) (rfl) (rg_all _) rfl
  have hF_96 := fq_puto hF hI_94 hkx (by decide) (by decide)
  refine g_aload_n C 0 dX12_left_5 rfl rfl ?_
  refine g_callVI C K (c_X12_take_e W9 hLx hkx   hU_95) hLx hkx (by decide) rfl v_12_162 rfl ⟨rfl, rfl⟩ ⟨Nat.le_of_ble_eq_true rfl, Nat.le_of_ble_eq_true rfl⟩ (Nat.le_of_ble_eq_true rfl) ⟨Nat.le_of_ble_eq_true rfl, Nat.le_of_ble_eq_true rfl⟩ dX12_left_6 rfl (st := []) (fun x_97 I_98 J_99 h_100 => ?_)
  obtain ⟨hUI_98, hFI_98, hGJ_99, rx_97, fx_97, ex_97⟩ := h_100
  have hF_101 := fq_tr hF_96 hFI_98 (by decide)
  have hG_102 := fq_tr hG hGJ_99 (by decide)
  refine g_istore_n C dX12_left_9 rfl (by decide) (lo2 := [(2, .int x_97), (0, .ref x), (1, .int a0)]) rfl ?_
  refine g_aload_n C 1 dX12_left_10 rfl rfl ?_
  refine g_iload_n C 2 dX12_left_11 rfl rfl ?_
  refine g_callVI C K (c_X12_isPerson W9 hLx hkx a0  hUI_98) hLx hkx (by decide) rfl v_12_238 rfl ⟨rfl, rfl⟩ ⟨Nat.le_of_ble_eq_true rfl, Nat.le_of_ble_eq_true rfl⟩ (Nat.le_of_ble_eq_true rfl) ⟨Nat.le_of_ble_eq_true rfl, Nat.le_of_ble_eq_true rfl⟩ dX12_left_12 rfl (st := []) (fun x_103 I_104 J_105 h_106 => ?_)
  obtain ⟨rfl, rfl, rx_103, ex_103⟩ := h_106
  refine g_if_eq C (tgt := 28) dX12_left_15 (by decide) (fun h_107 => ?_) (fun h_107 => ?_)
  · skip
    have r_108 := (⟨(rx_103).1, (eq_rg (h_107) rc_0).2⟩ : Rg 0 0 x_103)
    refine g_iconst C (v := (-1)) dX12_left_28 (by decide) ?_
    exact g_zret (ty := .int) (r := (-1)) B K rfl (rfl) ⟨hUI_98, hF_101, hG_102, rg_w rc_m1 (by decide) (by decide), (hd_fq W9 hLx hkx (hd_u (r := 0) W9 hLx hkx hd_rf hI_94 (Or.inl (ro_o hkx (by decide)))) hFI_98 (by decide)), (ex_97)⟩ dX12_left_29
  · skip
    have n_109 : ¬ x_103 = 0 := h_107
    have r_110 := ne_lo (lo := 1) n_109 rx_103 rc_0 rfl (by decide)
    have r_111 := rg_i (rg_all a0) ((ex_103) n_109) (lo := 0) (hi := 6) (by decide) (by decide)
    refine g_iload_n C 0 dX12_left_18 rfl rfl ?_
    refine g_iconst C (v := 1) dX12_left_19 (by decide) ?_
    refine g_bipush C (v := 7) dX12_left_20 (by decide) ?_
    refine g_callSI C K (c_X12_isIn W9 x_97 1 7 (rg_w rc_1 (by decide) (by decide)) (rg_w rc_7 (by decide) (by decide)) hUI_98) s_12_149 rfl ⟨rfl, rfl⟩ ⟨Nat.le_of_ble_eq_true rfl, Nat.le_of_ble_eq_true rfl⟩ (Nat.le_of_ble_eq_true rfl) ⟨Nat.le_of_ble_eq_true rfl, Nat.le_of_ble_eq_true rfl⟩ dX12_left_22 rfl (st := []) (fun x_112 I_113 J_114 h_115 => ?_)
    obtain ⟨rfl, rfl, rx_112, fx_112, ex_112⟩ := h_115
    refine g_if_ne C (tgt := 30) dX12_left_25 (by decide) (fun h_116 => ?_) (fun h_116 => ?_)
    · skip
      have n_117 : ¬ x_112 = 0 := h_116
      have r_118 := ne_lo (lo := 1) n_117 rx_112 rc_0 rfl (by decide)
      have r_119 := le_r (((ex_112.1) n_117)) rc_1 rx_97
      have r_120 := le_l (((ex_112.2) n_117)) r_119 rc_7
      refine g_iconst C (v := 0) dX12_left_30 (by decide) ?_
      refine g_istore_n C dX12_left_31 rfl (by decide) (lo2 := [(3, .int 0), (2, .int x_97), (0, .ref x), (1, .int a0)]) rfl ?_
      refine g_lo (is := [2, 3, 1, 0]) (lo2 := [(0, .ref x), (1, .int a0), (2, .int x_97), (3, .int 0)]) rfl ?_
      exact l_32 8 I_98 J_99 hUI_98 hF_101 hG_102 (r_111) x_97 (r_120) 0 (rg_w rc_0 (by decide) (by decide)) (fq_at hFI_98 hLx hkx (by decide) (by decide) (kp_s hI_94)) ex_97 (hd_fq W9 hLx hkx (hd_u (r := 0) W9 hLx hkx hd_rf hI_94 (Or.inl (ro_o hkx (by decide)))) hFI_98 (by decide)) (fun j hj => by rw [show (0 : Int32).toInt = 0 from by decide] at hj; omega) (ms_s (a := 0) (b := 7) (N := 8) (rg_w rc_0 (by decide) (by decide)) (by decide))
    · skip
      have r_121 := (⟨(rx_112).1, (eq_rg (h_116) rc_0).2⟩ : Rg 0 0 x_112)
      refine g_iconst C (v := (-1)) dX12_left_28 (by decide) ?_
      exact g_zret (ty := .int) (r := (-1)) B K rfl (rfl) ⟨hUI_98, hF_101, hG_102, rg_w rc_m1 (by decide) (by decide), (hd_fq W9 hLx hkx (hd_u (r := 0) W9 hLx hkx hd_rf hI_94 (Or.inl (ro_o hkx (by decide)))) hFI_98 (by decide)), (ex_97)⟩ dX12_left_29
set_option maxRecDepth 100000 in
set_option maxHeartbeats 8000000 in
theorem c_X12_sentence_e {l : Launch} {D : va_G} {cy : Nat → ClassId} {L : List Nat} {κ ln : Nat → Nat} {R : Nat → Nat → Option Nat} {I : Nat → Nat → Int32} {J : Nat → Nat → Int64} {ow : Nat → Nat × Nat} (W9 : ∀ a ∈ L, Shp L κ ln R ow a) {x : Nat} (hLx : x ∈ L) (hkx : κ x = 12) (hU : Iw L κ R ow I) : CtI l yX12_sentence cX12_sentence 2 (some .int) { frames := 38, cells := 0, slots := 0, locals := 814 } D cy L κ ln R I J [.ref x] (fun r I2 J2 => Iw L κ R ow I2 ∧ Fq L κ ow [1200, 1202, 1203, 1204, 1205, 1206, 1207, 1208, 1209, 1210, 1211, 1213, 1247, 1248, 1249, 1250, 83400, 86600] I I2 ∧ Fq L κ ow [1212] J J2 ∧ Rg (-2147483648) 2147483647 r ∧ (r = mSent (NVf R I J x) (NWf R I J x) (MTf R I J x) (NRf R I J x) (QTf R I J x)) ∧ (Hd_ R x I I2) ∧ (I2 x 10 = mSentF (NVf R I J x) (NWf R I J x) (MTf R I J x) (NRf R I J x) (QTf R I J x)) ∧ ((I2 x 2) = 0)) := by
  refine CtI.of (by decide +kernel) (Nat.le_of_ble_eq_true rfl) ?_
  intro p e s m below meth c B K
  have C := B.1
  have hF : Fq L κ ow [1200, 1202, 1203, 1204, 1205, 1206, 1207, 1208, 1209, 1210, 1211, 1213, 1247, 1248, 1249, 1250, 83400, 86600] I I := fq_rf
  have hG : Fq L κ ow [1212] J J := fq_rf
  obtain ⟨b_1, hb_1, hb_1L, hb_1k, hb_1n, hb_1o⟩ := shp_a (W9 x hLx) hkx 46 14 240 rfl (by decide)
  obtain ⟨b_2, hb_2, hb_2L, hb_2k, hb_2n, hb_2o⟩ := shp_a (W9 x hLx) hkx 14 14 389 rfl (by decide)
  obtain ⟨b_3, hb_3, hb_3L, hb_3k, hb_3n, hb_3o⟩ := shp_a (W9 x hLx) hkx 19 15 13 rfl (by decide)
  have evqx : ∀ I J, NVf R I J x = NVq I J x b_3 := fun I J => by simp only [NVf, rr_, Option.getD_some, hb_3]
  have wvqx : vqw_ L κ ow x b_3 := ⟨⟨hLx, hb_3L⟩, ⟨(ro_o hkx (by decide)), (ro_a hb_3k (by decide) hb_3o hkx rfl)⟩⟩
  obtain ⟨s_4, hs_4⟩ : ∃ z, NVq I J x b_3 = z := ⟨_, rfl⟩
  have ezqx : ∀ I J, NWf R I J x = NWq I J x b_2 := fun I J => by simp only [NWf, rr_, Option.getD_some, hb_2]
  have wzqx : zqw_ L κ ow x b_2 := ⟨⟨hLx, hb_2L⟩, ⟨(ro_o hkx (by decide)), (ro_a hb_2k (by decide) hb_2o hkx rfl)⟩⟩
  obtain ⟨s_5, hs_5⟩ : ∃ z, NWq I J x b_2 = z := ⟨_, rfl⟩
  obtain ⟨b_6, hb_6, hb_6L, hb_6k, hb_6n, hb_6o⟩ := shp_a (W9 x hLx) hkx 1 14 940 rfl (by decide)
  have emqx : ∀ I J, MTf R I J x = MTq I J x b_6 := fun I J => by simp only [MTf, rr_, Option.getD_some, hb_6]
  have wmqx : mqw_ L κ ow x b_6 := ⟨⟨hLx, hb_6L⟩, ⟨(ro_o hkx (by decide)), (ro_a hb_6k (by decide) hb_6o hkx rfl)⟩⟩
  obtain ⟨s_7, hs_7⟩ : ∃ z, MTq I J x b_6 = z := ⟨_, rfl⟩
  obtain ⟨b_8, hb_8, hb_8L, hb_8k, hb_8n, hb_8o⟩ := shp_a (W9 x hLx) hkx 15 14 72 rfl (by decide)
  obtain ⟨b_9, hb_9, hb_9L, hb_9k, hb_9n, hb_9o⟩ := shp_a (W9 x hLx) hkx 20 15 13 rfl (by decide)
  have enqx : ∀ I J, NRf R I J x = NRq I J x b_8 b_9 := fun I J => by simp only [NRf, rr_, Option.getD_some, hb_8, hb_9]
  have wnqx : nqw_ L κ ow x b_8 b_9 := ⟨⟨hLx, hb_8L, hb_9L⟩, ⟨(ro_o hkx (by decide)), (ro_a hb_8k (by decide) hb_8o hkx rfl), (ro_a hb_9k (by decide) hb_9o hkx rfl)⟩⟩
  obtain ⟨s_10, hs_10⟩ : ∃ z, NRq I J x b_8 b_9 = z := ⟨_, rfl⟩
  have eqqx : ∀ I J, QTf R I J x = QTq I J x := fun I J => by simp only [QTf, rr_, Option.getD_some]
  have wqqx : qqw_ L κ ow x := ⟨hLx, (ro_o hkx (by decide))⟩
  obtain ⟨s_11, hs_11⟩ : ∃ z, QTq I J x = z := ⟨_, rfl⟩
  refine g_lo (is := [0]) (lo2 := [(0, .ref x)]) rfl ?_
  refine g_aload_n C 0 dX12_sentence_0 rfl rfl ?_
  refine g_sipush C (v := 200) dX12_sentence_1 (by decide) ?_
  refine g_callVV C K (c_X12_begin_e W9 hLx hkx 200 (rg_w rc_200 (by decide) (by decide)) hU) hLx hkx (by decide) rfl v_12_216 rfl ⟨rfl, rfl⟩ ⟨Nat.le_of_ble_eq_true rfl, Nat.le_of_ble_eq_true rfl⟩ (Nat.le_of_ble_eq_true rfl) ⟨Nat.le_of_ble_eq_true rfl, Nat.le_of_ble_eq_true rfl⟩ dX12_sentence_4 rfl (st := []) (fun I_13 J_14 h_15 => ?_)
  obtain ⟨hUI_13, hFI_13, hGJ_14, fx_12, ex_12⟩ := h_15
  have hF_16 := fq_tr hF hFI_13 (by decide)
  have hG_17 := fq_tr hG hGJ_14 (by decide)
  obtain ⟨s_19, hs_19⟩ : ∃ z, MTq I_13 J_14 x b_6 = z := ⟨_, rfl⟩
  obtain ⟨s_20, hs_20⟩ : ∃ z, NRq I_13 J_14 x b_8 b_9 = z := ⟨_, rfl⟩
  have c_18 : mBegin (200) (s_7) (s_10) = (s_19, s_20) := by have q := fx_12; simp only [emqx, enqx, hs_7, hs_10, hs_19, hs_20] at q; exact q.symm
  have hs_21 : NVq I_13 J_14 x b_3 = s_4 := (vq_fq wvqx hFI_13 hGJ_14 (by decide) (by decide)).trans hs_4
  have hs_22 : NWq I_13 J_14 x b_2 = s_5 := (zq_fq wzqx hFI_13 hGJ_14 (by decide) (by decide)).trans hs_5
  have hs_23 : QTq I_13 J_14 x = s_11 := (qq_fq wqqx hFI_13 hGJ_14 (by decide) (by decide)).trans hs_11
  refine g_aload_n C 0 dX12_sentence_7 rfl rfl ?_
  refine g_iconst C (v := 0) dX12_sentence_8 (by decide) ?_
  refine h_putI C K hLx hkx f_12_380 p_12_47 dX12_sentence_9 (fun I_24 hI_24 => ?_)
  have hU_25 := iw_put W9 hUI_13 hI_24 (ro_o hkx (by decide)) (lo := 0) (hi := 60) (rfl) (rg_w rc_0 (by decide) (by decide)) rfl
  have hF_26 := fq_puto hF_16 hI_24 hkx (by decide) (by decide)
  have hs_27 : NVq I_24 J_14 x b_3 = s_4 := by rw [hI_24]; exact (vq_oI wvqx (ro_o hkx (by decide)) (by decide)).trans hs_21
  have hs_28 : NWq I_24 J_14 x b_2 = s_5 := by rw [hI_24]; exact (zq_oI wzqx (ro_o hkx (by decide)) (by decide)).trans hs_22
  have hs_29 : MTq I_24 J_14 x b_6 = s_19 := by rw [hI_24]; exact (mq_uIt wmqx (by decide)).trans hs_19
  have hs_30 : NRq I_24 J_14 x b_8 b_9 = s_20 := by rw [hI_24]; exact (nq_uIt wnqx (by decide)).trans hs_20
  have hs_31 : QTq I_24 J_14 x = s_11 := by rw [hI_24]; exact (qq_uIt wqqx (by decide)).trans hs_23
  refine g_aload_n C 0 dX12_sentence_12 rfl rfl ?_
  refine g_iconst C (v := 0) dX12_sentence_13 (by decide) ?_
  refine h_putI C K hLx hkx f_12_395 p_12_48 dX12_sentence_14 (fun I_32 hI_32 => ?_)
  have hU_33 := iw_put W9 hU_25 hI_32 (ro_o hkx (by decide)) (lo := 0) (hi := 20) (rfl) (rg_w rc_0 (by decide) (by decide)) rfl
  have hF_34 := fq_puto hF_26 hI_32 hkx (by decide) (by decide)
  have hs_35 : NVq I_32 J_14 x b_3 = s_4 := by rw [hI_32]; exact (vq_oI wvqx (ro_o hkx (by decide)) (by decide)).trans hs_27
  have hs_36 : NWq I_32 J_14 x b_2 = s_5 := by rw [hI_32]; exact (zq_oI wzqx (ro_o hkx (by decide)) (by decide)).trans hs_28
  have hs_37 : MTq I_32 J_14 x b_6 = s_19 := by rw [hI_32]; exact (mq_uIt wmqx (by decide)).trans hs_29
  have hs_38 : NRq I_32 J_14 x b_8 b_9 = s_20 := by rw [hI_32]; exact (nq_uIt wnqx (by decide)).trans hs_30
  have hs_39 : QTq I_32 J_14 x = (QT_.w_om s_11 (0)) := by rw [hI_32]; exact ((qq_om wqqx).trans (congrArg (fun z : QT_ => QT_.w_om z (0)) hs_31)).trans rfl
  refine g_aload_n C 0 dX12_sentence_17 rfl rfl ?_
  refine g_iconst C (v := 0) dX12_sentence_18 (by decide) ?_
  refine h_putI C K hLx hkx f_12_398 p_12_49 dX12_sentence_19 (fun I_40 hI_40 => ?_)
  have hU_41 := iw_put W9 hU_33 hI_40 (ro_o hkx (by decide)) (lo := 0) (hi := 8) (rfl) (rg_w rc_0 (by decide) (by decide)) rfl
  have hF_42 := fq_puto hF_34 hI_40 hkx (by decide) (by decide)
  have hs_43 : NVq I_40 J_14 x b_3 = s_4 := by rw [hI_40]; exact (vq_oI wvqx (ro_o hkx (by decide)) (by decide)).trans hs_35
  have hs_44 : NWq I_40 J_14 x b_2 = s_5 := by rw [hI_40]; exact (zq_oI wzqx (ro_o hkx (by decide)) (by decide)).trans hs_36
  have hs_45 : MTq I_40 J_14 x b_6 = s_19 := by rw [hI_40]; exact (mq_uIt wmqx (by decide)).trans hs_37
  have hs_46 : NRq I_40 J_14 x b_8 b_9 = s_20 := by rw [hI_40]; exact (nq_uIt wnqx (by decide)).trans hs_38
  have hs_47 : QTq I_40 J_14 x = (QT_.w_om s_11 (0)) := by rw [hI_40]; exact (qq_uIt wqqx (by decide)).trans hs_39
  refine g_aload_n C 0 dX12_sentence_22 rfl rfl ?_
  refine g_callVI C K (c_X12_readOr_0 W9 hLx hkx   hU_41  (by rw [(kp_j hI_40 (by decide) (kp_j hI_32 (by decide) (kp_s hI_24))), (kp_j hI_40 (by decide) (kp_s hI_32))]; decide) ((kp_s hI_40))) hLx hkx (by decide) rfl v_12_413 rfl ⟨rfl, rfl⟩ ⟨Nat.le_of_ble_eq_true rfl, Nat.le_of_ble_eq_true rfl⟩ (Nat.le_of_ble_eq_true rfl) ⟨Nat.le_of_ble_eq_true rfl, Nat.le_of_ble_eq_true rfl⟩ dX12_sentence_23 rfl (st := []) (fun x_48 I_49 J_50 h_51 => ?_)
  obtain ⟨hUI_49, hFI_49, hGJ_50, rx_48, fx_48, ex_48⟩ := h_51
  have hF_52 := fq_tr hF_42 hFI_49 (by decide)
  have hG_53 := fq_tr hG_17 hGJ_50 (by decide)
  obtain ⟨s_55, hs_55⟩ : ∃ z, MTq I_49 J_50 x b_6 = z := ⟨_, rfl⟩
  obtain ⟨s_56, hs_56⟩ : ∃ z, NRq I_49 J_50 x b_8 b_9 = z := ⟨_, rfl⟩
  obtain ⟨s_57, hs_57⟩ : ∃ z, QTq I_49 J_50 x = z := ⟨_, rfl⟩
  have c_54 : mOrK 8 (s_4) (s_5) (s_19) (s_20) ((QT_.w_om s_11 (0))) = (x_48, s_55, s_56, s_57) := by have q := fx_48; simp only [evqx, ezqx, emqx, enqx, eqqx, hs_43, hs_44, hs_45, hs_46, hs_47, hs_55, hs_56, hs_57] at q; exact q.symm
  have hs_58 : NVq I_49 J_50 x b_3 = s_4 := (vq_fq wvqx hFI_49 hGJ_50 (by decide) (by decide)).trans hs_43
  have hs_59 : NWq I_49 J_50 x b_2 = s_5 := (zq_fq wzqx hFI_49 hGJ_50 (by decide) (by decide)).trans hs_44
  obtain ⟨x_60, hx_60, rx_60⟩ := ex_getw (I := I_49) (a := x) (j := 47) (lo := 0) (hi := 60) hUI_49.1 hLx (ro_o hkx (by decide)) rfl
  obtain ⟨x_61, hx_61, rx_61⟩ := ex_getw (I := I_49) (a := x) (j := 50) (lo := 0) (hi := 59) hUI_49.1 hLx (ro_o hkx (by decide)) rfl
  obtain ⟨x_62, hx_62, rx_62⟩ := ex_getw (I := I_49) (a := x) (j := 48) (lo := 0) (hi := 20) hUI_49.1 hLx (ro_o hkx (by decide)) rfl
  have f_63 : s_57.om = x_62 := (congrArg QT_.om hs_57).symm.trans hx_62
  refine g_if_ne C (tgt := 36) dX12_sentence_26 (by decide) (fun h_64 => ?_) (fun h_64 => ?_)
  · skip
    have n_65 : ¬ x_48 = 0 := h_64
    have r_66 := ne_lo (lo := 1) n_65 rx_48 rc_0 rfl (by decide)
    have f_67 := sz_v (kp_j hI_40 (by decide) (kp_j hI_32 (by decide) (kp_s hI_24))) (kp_j hI_40 (by decide) (kp_s hI_32)) hx_60 hx_62 hx_61 (ex_48.1 n_65)
    refine g_aload_n C 0 dX12_sentence_36 rfl rfl ?_
    obtain ⟨x_68, hx_68, rx_68⟩ := ex_getw (I := I_49) (a := x) (j := 7) (lo := 0) (hi := 4) hUI_49.1 hLx (ro_o hkx (by decide)) rfl
    have f_69 : s_55.kind = x_68 := (congrArg MT_.kind hs_55).symm.trans hx_68
    refine g_getI C K hLx hkx f_12_104 (v := x_68) hx_68 dX12_sentence_37 ?_
    refine g_if_eq C (tgt := 56) dX12_sentence_40 (by decide) (fun h_70 => ?_) (fun h_70 => ?_)
    · skip
      have r_71 := (⟨(rx_68).1, (eq_rg (h_70) rc_0).2⟩ : Rg 0 0 x_68)
      obtain ⟨x_72, hx_72, rx_72⟩ := ex_getw (I := I_49) (a := x) (j := 10) (lo := (-2147483648)) (hi := 2147483647) hUI_49.1 hLx (ro_o hkx (by decide)) rfl
      have f_73 : s_56.mfault = x_72 := (congrArg NR_.mfault hs_56).symm.trans hx_72
      have mf_74 : mSentF (NVf R I J x) (NWf R I J x) (MTf R I J x) (NRf R I J x) (QTf R I J x) = x_72 := by (try simp only [c_18, hx_60, hx_61, hx_62, f_63, h_64, hx_68, f_69, (eq_true h_70), hx_72, f_73, if_true, if_false, mqM_tp, mqM_size, mqM_limit, mqM_to, mqM_frm, mqM_kind, mqM_number, mqM_sign, mqM_word, MT_.w_tp, MT_.w_size, MT_.w_limit, MT_.w_to, MT_.w_frm, MT_.w_kind, MT_.w_number, MT_.w_sign, MT_.w_word, nqM_rd, nqM_rn, nqM_taped, nqM_mfault, nqM_mplace, nqM_told, nqM_hl, nqM_hd, NR_.w_rd, NR_.w_rn, NR_.w_taped, NR_.w_mfault, NR_.w_mplace, NR_.w_told, NR_.w_hl, NR_.w_hd, qqM_om, QT_.w_om, vqM_nv, NV_.w_nv, zqM_nw, NW_.w_nw] at c_54); simp only [mSentF, mSenRead, evqx, hs_58, hs_4, ezqx, hs_59, hs_5, emqx, hs_55, hs_7, enqx, hs_56, hs_10, eqqx, hs_57, hs_11, c_18, c_54, hx_60, hx_61, hx_62, f_63, h_64, hx_68, f_69, (eq_true h_70), hx_72, f_73, if_true, if_false, mqM_tp, mqM_size, mqM_limit, mqM_to, mqM_frm, mqM_kind, mqM_number, mqM_sign, mqM_word, MT_.w_tp, MT_.w_size, MT_.w_limit, MT_.w_to, MT_.w_frm, MT_.w_kind, MT_.w_number, MT_.w_sign, MT_.w_word, nqM_rd, nqM_rn, nqM_taped, nqM_mfault, nqM_mplace, nqM_told, nqM_hl, nqM_hd, NR_.w_rd, NR_.w_rn, NR_.w_taped, NR_.w_mfault, NR_.w_mplace, NR_.w_told, NR_.w_hl, NR_.w_hd, qqM_om, QT_.w_om, vqM_nv, NV_.w_nv, zqM_nw, NW_.w_nw]
      refine g_aload_n C 0 dX12_sentence_56 rfl rfl ?_
      refine g_getR C K hLx hkx f_12_13 hb_2 dX12_sentence_57 ?_
      refine g_sipush C (v := 147) dX12_sentence_60 (by decide) ?_
      refine g_iconst C (v := 1) dX12_sentence_63 (by decide) ?_
      refine h_iast C K hb_2L hb_2k (147) (by decide) (by decide) (by rw [hb_2n]; decide) dX12_sentence_64 (fun I_75 hI_75 => ?_)
      have hU_76 := iw_free W9 hUI_49 (uw_put hUI_49.1 hI_75 (ro_a hb_2k (by decide) hb_2o hkx rfl) (lo := (-2147483648)) (hi := 2147483647) (by decide) (rg_all _)) hLx hkx hb_2 hI_75 (by omega)
      have hF_77 := fq_puta hF_52 hI_75 (ro_a hb_2k (by decide) hb_2o hkx rfl) (by decide) (by decide)
      refine g_aload_n C 0 dX12_sentence_65 rfl rfl ?_
      refine g_getR C K hLx hkx f_12_13 hb_2 dX12_sentence_66 ?_
      refine g_sipush C (v := 148) dX12_sentence_69 (by decide) ?_
      refine g_aload_n C 0 dX12_sentence_72 rfl rfl ?_
      refine g_getI C K hLx hkx f_12_386 (v := x_61) (kp_k (κ := κ) hI_75 (by rw [hkx, hb_2k]; decide) hx_61) dX12_sentence_73 ?_
      refine h_iast C K hb_2L hb_2k (148) (by decide) (by decide) (by rw [hb_2n]; decide) dX12_sentence_76 (fun I_78 hI_78 => ?_)
      have hU_79 := iw_free W9 hU_76 (uw_put hU_76.1 hI_78 (ro_a hb_2k (by decide) hb_2o hkx rfl) (lo := 0) (hi := 59) (by decide) (rx_61)) hLx hkx hb_2 hI_78 (by omega)
      have hF_80 := fq_puta hF_77 hI_78 (ro_a hb_2k (by decide) hb_2o hkx rfl) (by decide) (by decide)
      refine g_iconst C (v := 0) dX12_sentence_77 (by decide) ?_
      refine g_istore_n C dX12_sentence_78 rfl (by decide) (lo2 := [(1, .int 0), (0, .ref x)]) rfl ?_
      refine g_lo (is := [1, 0]) (lo2 := [(0, .ref x), (1, .int 0)]) rfl ?_
      have ex_79 : ∀ (I_82 : Nat → Nat → Int32) (hI_82 : I_82 = cpn_ I_78 b_1 b_2 (0) (149) 240) (v_81 : Int32) (rv_81 : Rg 240 240 v_81), WG p l e { frames := 38, cells := 0, slots := 0, locals := 814 } s m ([.ref x] : List Value).toArray below meth c 2 0 0 (MQ below (Qi_ D cy L κ ln R (fun r I2 J2 => Iw L κ R ow I2 ∧ Fq L κ ow [1200, 1202, 1203, 1204, 1205, 1206, 1207, 1208, 1209, 1210, 1211, 1213, 1247, 1248, 1249, 1250, 83400, 86600] I I2 ∧ Fq L κ ow [1212] J J2 ∧ Rg (-2147483648) 2147483647 r ∧ (r = mSent (NVf R I J x) (NWf R I J x) (MTf R I J x) (NRf R I J x) (QTf R I J x)) ∧ (Hd_ R x I I2) ∧ (I2 x 10 = mSentF (NVf R I J x) (NWf R I J x) (MTf R I J x) (NRf R I J x) (QTf R I J x)) ∧ ((I2 x 2) = 0))) ([.ref x] : List Value).toArray s 0 0 (Al_ L)) D cy (Al_ L) s.heap L κ ln R I_82 J_50 108 [(0, .ref x), (1, .int v_81)] [] := by
        intro I_82 hI_82 v_81 rv_81
        have hF_83 := fq_cpn hF_80 hI_82 (ro_a hb_2k (by decide) hb_2o hkx rfl) (by decide) (by decide)
        have hU_84 := uw_cpn hU_79.1 hb_1L hI_82 (ro_a hb_2k (by decide) hb_2o hkx rfl) (ro_a hb_1k (by decide) hb_1o hkx rfl) (fun i hi => by rw [bn_834, zq_149 (by omega)]; exact ⟨Int.le_refl _, Int.le_refl _⟩)
        have hU_85 := iw_se W9 hU_79 hU_84 hLx hkx hb_2 hb_1 hI_82
        refine g_aload_n C 0 dX12_sentence_108 rfl rfl ?_
        refine g_getI C K hLx hkx f_12_395 (v := x_62) (kp_cn (κ := κ) hI_82 (by rw [hkx, hb_2k]; decide) (kp_k (κ := κ) hI_78 (by rw [hkx, hb_2k]; decide) (kp_k (κ := κ) hI_75 (by rw [hkx, hb_2k]; decide) hx_62))) dX12_sentence_109 ?_
        have q_86 := (kp_cn (κ := κ) hI_82 (by rw [hkx, hb_2k]; decide) (kp_k (κ := κ) hI_78 (by rw [hkx, hb_2k]; decide) (kp_k (κ := κ) hI_75 (by rw [hkx, hb_2k]; decide) (fq_at hFI_49 hLx hkx (by decide) (by decide) (kp_j hI_40 (by decide) (kp_j hI_32 (by decide) (kp_j hI_24 (by decide) ex_12)))))))
        exact g_zret (ty := .int) (r := x_62) B K rfl (rfl) ⟨hU_85, hF_83, hG_53, rg_all _, (by (try simp only [c_18, hx_60, hx_61, hx_62, f_63, h_64, hx_68, f_69, (eq_true h_70), hx_72, f_73, if_true, if_false, mqM_tp, mqM_size, mqM_limit, mqM_to, mqM_frm, mqM_kind, mqM_number, mqM_sign, mqM_word, MT_.w_tp, MT_.w_size, MT_.w_limit, MT_.w_to, MT_.w_frm, MT_.w_kind, MT_.w_number, MT_.w_sign, MT_.w_word, nqM_rd, nqM_rn, nqM_taped, nqM_mfault, nqM_mplace, nqM_told, nqM_hl, nqM_hd, NR_.w_rd, NR_.w_rn, NR_.w_taped, NR_.w_mfault, NR_.w_mplace, NR_.w_told, NR_.w_hl, NR_.w_hd, qqM_om, QT_.w_om, vqM_nv, NV_.w_nv, zqM_nw, NW_.w_nw] at c_54); simp only [mSent, mSenRead, evqx, hs_4, ezqx, hs_5, emqx, hs_7, enqx, hs_10, eqqx, hs_11, c_18, c_54, hx_60, hx_61, hx_62, f_63, h_64, hx_68, f_69, (eq_true h_70), hx_72, f_73, if_true, if_false, mqM_tp, mqM_size, mqM_limit, mqM_to, mqM_frm, mqM_kind, mqM_number, mqM_sign, mqM_word, MT_.w_tp, MT_.w_size, MT_.w_limit, MT_.w_to, MT_.w_frm, MT_.w_kind, MT_.w_number, MT_.w_sign, MT_.w_word, nqM_rd, nqM_rn, nqM_taped, nqM_mfault, nqM_mplace, nqM_told, nqM_hl, nqM_hd, NR_.w_rd, NR_.w_rn, NR_.w_taped, NR_.w_mfault, NR_.w_mplace, NR_.w_told, NR_.w_hl, NR_.w_hd, qqM_om, QT_.w_om, vqM_nv, NV_.w_nv, zqM_nw, NW_.w_nw]), (hd_c (r := 0) W9 hLx hkx (hd_u (r := 0) W9 hLx hkx (hd_u (r := 0) W9 hLx hkx (hd_fq W9 hLx hkx (hd_u (r := 0) W9 hLx hkx (hd_u (r := 0) W9 hLx hkx (hd_u (r := 0) W9 hLx hkx (hd_fq W9 hLx hkx hd_rf hFI_13 (by decide)) hI_24 (Or.inl (ro_o hkx (by decide)))) hI_32 (Or.inl (ro_o hkx (by decide)))) hI_40 (Or.inl (ro_o hkx (by decide)))) hFI_49 (by decide)) hI_75 (Or.inr (Or.inr (by decide)))) hI_78 (Or.inr (Or.inr (by decide)))) hI_82 (Or.inr (by omega))), (Eq.trans (kp_cn (κ := κ) hI_82 (by rw [hkx, hb_2k]; decide) (kp_k (κ := κ) hI_78 (by rw [hkx, hb_2k]; decide) (kp_k (κ := κ) hI_75 (by rw [hkx, hb_2k]; decide) hx_72))) mf_74.symm), (q_86)⟩ dX12_sentence_112
      have l_79 : ∀ (m_79 : Nat) (v_87 : Int32) (I_88 : Nat → Nat → Int32), v_87.toInt + (m_79 : Int) = 240 → 0 ≤ v_87.toInt → I_88 = cpn_ I_78 b_1 b_2 (0) (149) v_87.toNatClampNeg → WG p l e { frames := 38, cells := 0, slots := 0, locals := 814 } s m ([.ref x] : List Value).toArray below meth c 2 0 0 (MQ below (Qi_ D cy L κ ln R (fun r I2 J2 => Iw L κ R ow I2 ∧ Fq L κ ow [1200, 1202, 1203, 1204, 1205, 1206, 1207, 1208, 1209, 1210, 1211, 1213, 1247, 1248, 1249, 1250, 83400, 86600] I I2 ∧ Fq L κ ow [1212] J J2 ∧ Rg (-2147483648) 2147483647 r ∧ (r = mSent (NVf R I J x) (NWf R I J x) (MTf R I J x) (NRf R I J x) (QTf R I J x)) ∧ (Hd_ R x I I2) ∧ (I2 x 10 = mSentF (NVf R I J x) (NWf R I J x) (MTf R I J x) (NRf R I J x) (QTf R I J x)) ∧ ((I2 x 2) = 0))) ([.ref x] : List Value).toArray s 0 0 (Al_ L)) D cy (Al_ L) s.heap L κ ln R I_88 J_50 79 [(0, .ref x), (1, .int v_87)] [] := by
        intro m_79
        induction m_79 with
        | zero =>
          intro v_87 I_88 hk_79 h0_79 hI_88
          have rv_87 : Rg 240 240 v_87 := by unfold Rg; omega
          refine g_iload_n C 1 dX12_sentence_79 rfl rfl ?_
          refine g_sipush C (v := 240) dX12_sentence_80 (by decide) ?_
          refine g_icmp_ge C (tgt := 108) dX12_sentence_83 (by decide) (fun h_89 => ?_) (fun h_89 => ?_)
          · skip
            refine g_lo (is := [0, 1]) (lo2 := [(0, .ref x), (1, .int v_87)]) rfl ?_
            exact ex_79 I_88 (hI_88.trans (congrArg (fun q => cpn_ I_78 b_1 b_2 (0) (149) q) (show v_87.toNatClampNeg = 240 from by have := ix_n rv_87 (by decide); have := rv_87.1; have := rv_87.2; omega))) v_87 rv_87
          · skip
            have r_90 := lt_l (hi := 239) (nle h_89) rv_87 rc_240 (by decide)
            exact rg_no r_90 (by decide)
        | succ m_79 ih_79 =>
          intro v_87 I_88 hk_79 h0_79 hI_88
          have rv_87 : Rg 0 239 v_87 := by unfold Rg; omega
          refine g_iload_n C 1 dX12_sentence_79 rfl rfl ?_
          refine g_sipush C (v := 240) dX12_sentence_80 (by decide) ?_
          refine g_icmp_ge C (tgt := 108) dX12_sentence_83 (by decide) (fun h_91 => ?_) (fun h_91 => ?_)
          · skip
            have r_92 := le_r (h_91) rc_240 rv_87
            exact rg_no r_92 (by decide)
          · skip
            refine g_aload_n C 0 dX12_sentence_86 rfl rfl ?_
            refine g_getR C K hLx hkx f_12_13 hb_2 dX12_sentence_87 ?_
            refine g_sipush C (v := 149) dX12_sentence_90 (by decide) ?_
            refine g_iload_n C 1 dX12_sentence_93 rfl rfl ?_
            obtain ⟨x_93, hx_93, rx_93, tx_93⟩ := ex_add 149 388 rc_149 rv_87 (by decide) (by decide) (by decide) (by decide)
            refine g_iadd C (v := x_93) dX12_sentence_94 hx_93 ?_
            refine g_aload_n C 0 dX12_sentence_95 rfl rfl ?_
            refine g_getR C K hLx hkx f_12_79 hb_1 dX12_sentence_96 ?_
            refine g_iload_n C 1 dX12_sentence_99 rfl rfl ?_
            obtain ⟨x_94, hx_94, rx_94⟩ := ex_any (z0 := I_88 b_1 (v_87.toNatClampNeg))
            refine h_iald C K hb_1L hb_1k (v := x_94) (v_87.toNatClampNeg) (rfl) (ix_0 rv_87 (by decide)) (ix_lt rv_87 (by decide) hb_1n (by decide)) hx_94 dX12_sentence_100 ?_
            refine h_iast C K hb_2L hb_2k (x_93.toNatClampNeg) (rfl) (ix_0 rx_93 (by decide)) (ix_lt rx_93 (by decide) hb_2n (by decide)) dX12_sentence_101 (fun I_95 hI_95 => ?_)
            obtain ⟨x_96, hx_96, rx_96, tx_96⟩ := ex_add (y := 1) 1 240 rv_87 rc_1 (by decide) (by decide) (by decide) (by decide)
            refine g_iinc C dX12_sentence_102 (k := 1) (v := x_96) rfl hx_96 (by decide) (lo2 := [(1, .int x_96), (0, .ref x)]) rfl ?_
            refine g_goto C (tgt := 79) dX12_sentence_105 (by decide) ?_
            refine g_lo (is := [1, 0]) (lo2 := [(0, .ref x), (1, .int x_96)]) rfl ?_
            have kk_79 : x_96.toNatClampNeg = v_87.toNatClampNeg + 1 := by have q1 := ix_n rv_87 (by decide); have q2 := (ti_k tx_96 rc_1); have q3 : x_96.toNatClampNeg = x_96.toInt.toNat := rfl; omega
            exact ih_79 x_96 I_95 (by have := (ti_k tx_96 rc_1); omega) (by have := (ti_k tx_96 rc_1); omega) (by rw [kk_79]; exact cpn_s hI_88 hx_94 hI_95 (show v_87.toNatClampNeg = (0) + v_87.toNatClampNeg from by omega) (show x_93.toNatClampNeg = (149) + v_87.toNatClampNeg from by rw [nx_a tx_93 rc_149 rv_87 (by decide)]; simp only [show (149 : Int32).toNatClampNeg = 149 from rfl] <;> omega) (Or.inl (ne_ro (ro_a hb_1k (by decide) hb_1o hkx rfl) (ro_a hb_2k (by decide) hb_2o hkx rfl) (by decide))))
      exact l_79 240 0 I_78 (by decide) (by decide) cpn_0
    · skip
      have n_97 : ¬ x_68 = 0 := h_70
      have r_98 := ne_lo (lo := 1) n_97 rx_68 rc_0 rfl (by decide)
      refine g_aload_n C 0 dX12_sentence_43 rfl rfl ?_
      refine g_iconst C (v := 1) dX12_sentence_44 (by decide) ?_
      refine g_callVI C K (c_X12_bad W9 hLx hkx 1 (rg_w rc_1 (by decide) (by decide)) hUI_49) hLx hkx (by decide) rfl v_12_146 rfl ⟨rfl, rfl⟩ ⟨Nat.le_of_ble_eq_true rfl, Nat.le_of_ble_eq_true rfl⟩ (Nat.le_of_ble_eq_true rfl) ⟨Nat.le_of_ble_eq_true rfl, Nat.le_of_ble_eq_true rfl⟩ dX12_sentence_45 rfl (st := []) (fun x_99 I_100 J_101 h_102 => ?_)
      obtain ⟨hUI_100, hFI_100, hGJ_101, rx_99, fx_99⟩ := h_102
      have hF_103 := fq_tr hF_52 hFI_100 (by decide)
      have hG_104 := fq_tr hG_53 hGJ_101 (by decide)
      obtain ⟨s_106, hs_106⟩ : ∃ z, MTq I_100 J_101 x b_6 = z := ⟨_, rfl⟩
      obtain ⟨s_107, hs_107⟩ : ∃ z, NRq I_100 J_101 x b_8 b_9 = z := ⟨_, rfl⟩
      have c_105 : mBad (1) (s_55) (s_56) = (x_99, s_106, s_107) := by have q := fx_99; simp only [emqx, enqx, hs_55, hs_56, hs_106, hs_107] at q; exact q.symm
      have hs_108 : NVq I_100 J_101 x b_3 = s_4 := (vq_fq wvqx hFI_100 hGJ_101 (by decide) (by decide)).trans hs_58
      have hs_109 : NWq I_100 J_101 x b_2 = s_5 := (zq_fq wzqx hFI_100 hGJ_101 (by decide) (by decide)).trans hs_59
      have hs_110 : QTq I_100 J_101 x = s_57 := (qq_fq wqqx hFI_100 hGJ_101 (by decide) (by decide)).trans hs_57
      refine g_pop C dX12_sentence_48 rfl ?_
      refine g_iconst C (v := (-1)) dX12_sentence_49 (by decide) ?_
      refine g_aload_n C 0 dX12_sentence_50 rfl rfl ?_
      obtain ⟨x_111, hx_111, rx_111⟩ := ex_getw (I := I_100) (a := x) (j := 11) (lo := (-2147483648)) (hi := 2147483647) hUI_100.1 hLx (ro_o hkx (by decide)) rfl
      have f_112 : s_107.mplace = x_111 := (congrArg NR_.mplace hs_107).symm.trans hx_111
      refine g_getI C K hLx hkx f_12_143 (v := x_111) hx_111 dX12_sentence_51 ?_
      obtain ⟨x_113, hx_113, rx_113, tx_113⟩ := ex_sub (-2147483648) 2147483647 rc_m1 rx_111 (by decide) (by decide) (by decide) (by decide)
      refine g_isub C (v := x_113) dX12_sentence_54 hx_113 ?_
      obtain ⟨x_114, hx_114, rx_114⟩ := ex_getw (I := I_100) (a := x) (j := 10) (lo := (-2147483648)) (hi := 2147483647) hUI_100.1 hLx (ro_o hkx (by decide)) rfl
      have f_115 : s_107.mfault = x_114 := (congrArg NR_.mfault hs_107).symm.trans hx_114
      have mf_116 : mSentF (NVf R I J x) (NWf R I J x) (MTf R I J x) (NRf R I J x) (QTf R I J x) = x_114 := by (try simp only [c_18, hx_60, hx_61, hx_62, f_63, h_64, hx_68, f_69, h_70, c_105, hx_111, f_112, hx_113, hx_114, f_115, if_true, if_false, mqM_tp, mqM_size, mqM_limit, mqM_to, mqM_frm, mqM_kind, mqM_number, mqM_sign, mqM_word, MT_.w_tp, MT_.w_size, MT_.w_limit, MT_.w_to, MT_.w_frm, MT_.w_kind, MT_.w_number, MT_.w_sign, MT_.w_word, nqM_rd, nqM_rn, nqM_taped, nqM_mfault, nqM_mplace, nqM_told, nqM_hl, nqM_hd, NR_.w_rd, NR_.w_rn, NR_.w_taped, NR_.w_mfault, NR_.w_mplace, NR_.w_told, NR_.w_hl, NR_.w_hd, qqM_om, QT_.w_om, vqM_nv, NV_.w_nv, zqM_nw, NW_.w_nw] at c_54); simp only [mSentF, mSenRead, evqx, hs_108, hs_4, ezqx, hs_109, hs_5, emqx, hs_106, hs_7, enqx, hs_107, hs_10, eqqx, hs_110, hs_11, c_18, c_54, hx_60, hx_61, hx_62, f_63, h_64, hx_68, f_69, h_70, c_105, hx_111, f_112, hx_113, hx_114, f_115, if_true, if_false, mqM_tp, mqM_size, mqM_limit, mqM_to, mqM_frm, mqM_kind, mqM_number, mqM_sign, mqM_word, MT_.w_tp, MT_.w_size, MT_.w_limit, MT_.w_to, MT_.w_frm, MT_.w_kind, MT_.w_number, MT_.w_sign, MT_.w_word, nqM_rd, nqM_rn, nqM_taped, nqM_mfault, nqM_mplace, nqM_told, nqM_hl, nqM_hd, NR_.w_rd, NR_.w_rn, NR_.w_taped, NR_.w_mfault, NR_.w_mplace, NR_.w_told, NR_.w_hl, NR_.w_hd, qqM_om, QT_.w_om, vqM_nv, NV_.w_nv, zqM_nw, NW_.w_nw]
      have f_117 : s_107.taped = 0 := (congrArg NR_.taped hs_107).symm.trans (fq_at hFI_100 hLx hkx (by decide) (by decide) (fq_at hFI_49 hLx hkx (by decide) (by decide) (kp_j hI_40 (by decide) (kp_j hI_32 (by decide) (kp_j hI_24 (by decide) ex_12)))))
      exact g_zret (ty := .int) (r := x_113) B K rfl (rfl) ⟨hUI_100, hF_103, hG_104, rx_113, (by (try simp only [c_18, hx_60, hx_61, hx_62, f_63, h_64, hx_68, f_69, h_70, c_105, hx_111, f_112, hx_113, if_true, if_false, mqM_tp, mqM_size, mqM_limit, mqM_to, mqM_frm, mqM_kind, mqM_number, mqM_sign, mqM_word, MT_.w_tp, MT_.w_size, MT_.w_limit, MT_.w_to, MT_.w_frm, MT_.w_kind, MT_.w_number, MT_.w_sign, MT_.w_word, nqM_rd, nqM_rn, nqM_taped, nqM_mfault, nqM_mplace, nqM_told, nqM_hl, nqM_hd, NR_.w_rd, NR_.w_rn, NR_.w_taped, NR_.w_mfault, NR_.w_mplace, NR_.w_told, NR_.w_hl, NR_.w_hd, qqM_om, QT_.w_om, vqM_nv, NV_.w_nv, zqM_nw, NW_.w_nw] at c_54); simp only [mSent, mSenRead, evqx, hs_108, hs_4, ezqx, hs_109, hs_5, emqx, hs_106, hs_7, enqx, hs_107, hs_10, eqqx, hs_110, hs_11, c_18, c_54, hx_60, hx_61, hx_62, f_63, h_64, hx_68, f_69, h_70, c_105, hx_111, f_112, hx_113, if_true, if_false, mqM_tp, mqM_size, mqM_limit, mqM_to, mqM_frm, mqM_kind, mqM_number, mqM_sign, mqM_word, MT_.w_tp, MT_.w_size, MT_.w_limit, MT_.w_to, MT_.w_frm, MT_.w_kind, MT_.w_number, MT_.w_sign, MT_.w_word, nqM_rd, nqM_rn, nqM_taped, nqM_mfault, nqM_mplace, nqM_told, nqM_hl, nqM_hd, NR_.w_rd, NR_.w_rn, NR_.w_taped, NR_.w_mfault, NR_.w_mplace, NR_.w_told, NR_.w_hl, NR_.w_hd, qqM_om, QT_.w_om, vqM_nv, NV_.w_nv, zqM_nw, NW_.w_nw]), (hd_fq W9 hLx hkx (hd_fq W9 hLx hkx (hd_u (r := 0) W9 hLx hkx (hd_u (r := 0) W9 hLx hkx (hd_u (r := 0) W9 hLx hkx (hd_fq W9 hLx hkx hd_rf hFI_13 (by decide)) hI_24 (Or.inl (ro_o hkx (by decide)))) hI_32 (Or.inl (ro_o hkx (by decide)))) hI_40 (Or.inl (ro_o hkx (by decide)))) hFI_49 (by decide)) hFI_100 (by decide)), (Eq.trans hx_114 mf_116.symm), ((fq_at hFI_100 hLx hkx (by decide) (by decide) (fq_at hFI_49 hLx hkx (by decide) (by decide) (kp_j hI_40 (by decide) (kp_j hI_32 (by decide) (kp_j hI_24 (by decide) ex_12))))))⟩ dX12_sentence_55
  · skip
    have r_118 := (⟨(rx_48).1, (eq_rg (h_64) rc_0).2⟩ : Rg 0 0 x_48)
    refine g_iconst C (v := (-1)) dX12_sentence_29 (by decide) ?_
    refine g_aload_n C 0 dX12_sentence_30 rfl rfl ?_
    obtain ⟨x_119, hx_119, rx_119⟩ := ex_getw (I := I_49) (a := x) (j := 11) (lo := (-2147483648)) (hi := 2147483647) hUI_49.1 hLx (ro_o hkx (by decide)) rfl
    have f_120 : s_56.mplace = x_119 := (congrArg NR_.mplace hs_56).symm.trans hx_119
    refine g_getI C K hLx hkx f_12_143 (v := x_119) hx_119 dX12_sentence_31 ?_
    obtain ⟨x_121, hx_121, rx_121, tx_121⟩ := ex_sub (-2147483648) 2147483647 rc_m1 rx_119 (by decide) (by decide) (by decide) (by decide)
    refine g_isub C (v := x_121) dX12_sentence_34 hx_121 ?_
    obtain ⟨x_122, hx_122, rx_122⟩ := ex_getw (I := I_49) (a := x) (j := 10) (lo := (-2147483648)) (hi := 2147483647) hUI_49.1 hLx (ro_o hkx (by decide)) rfl
    have f_123 : s_56.mfault = x_122 := (congrArg NR_.mfault hs_56).symm.trans hx_122
    have mf_124 : mSentF (NVf R I J x) (NWf R I J x) (MTf R I J x) (NRf R I J x) (QTf R I J x) = x_122 := by (try simp only [c_18, hx_60, hx_61, hx_62, f_63, (eq_true h_64), hx_119, f_120, hx_121, hx_122, f_123, if_true, if_false, mqM_tp, mqM_size, mqM_limit, mqM_to, mqM_frm, mqM_kind, mqM_number, mqM_sign, mqM_word, MT_.w_tp, MT_.w_size, MT_.w_limit, MT_.w_to, MT_.w_frm, MT_.w_kind, MT_.w_number, MT_.w_sign, MT_.w_word, nqM_rd, nqM_rn, nqM_taped, nqM_mfault, nqM_mplace, nqM_told, nqM_hl, nqM_hd, NR_.w_rd, NR_.w_rn, NR_.w_taped, NR_.w_mfault, NR_.w_mplace, NR_.w_told, NR_.w_hl, NR_.w_hd, qqM_om, QT_.w_om, vqM_nv, NV_.w_nv, zqM_nw, NW_.w_nw] at c_54); simp only [mSentF, mSenRead, evqx, hs_58, hs_4, ezqx, hs_59, hs_5, emqx, hs_55, hs_7, enqx, hs_56, hs_10, eqqx, hs_57, hs_11, c_18, c_54, hx_60, hx_61, hx_62, f_63, (eq_true h_64), hx_119, f_120, hx_121, hx_122, f_123, if_true, if_false, mqM_tp, mqM_size, mqM_limit, mqM_to, mqM_frm, mqM_kind, mqM_number, mqM_sign, mqM_word, MT_.w_tp, MT_.w_size, MT_.w_limit, MT_.w_to, MT_.w_frm, MT_.w_kind, MT_.w_number, MT_.w_sign, MT_.w_word, nqM_rd, nqM_rn, nqM_taped, nqM_mfault, nqM_mplace, nqM_told, nqM_hl, nqM_hd, NR_.w_rd, NR_.w_rn, NR_.w_taped, NR_.w_mfault, NR_.w_mplace, NR_.w_told, NR_.w_hl, NR_.w_hd, qqM_om, QT_.w_om, vqM_nv, NV_.w_nv, zqM_nw, NW_.w_nw]
    have f_125 : s_56.taped = 0 := (congrArg NR_.taped hs_56).symm.trans (fq_at hFI_49 hLx hkx (by decide) (by decide) (kp_j hI_40 (by decide) (kp_j hI_32 (by decide) (kp_j hI_24 (by decide) ex_12))))
    exact g_zret (ty := .int) (r := x_121) B K rfl (rfl) ⟨hUI_49, hF_52, hG_53, rx_121, (by (try simp only [c_18, hx_60, hx_61, hx_62, f_63, (eq_true h_64), hx_119, f_120, hx_121, if_true, if_false, mqM_tp, mqM_size, mqM_limit, mqM_to, mqM_frm, mqM_kind, mqM_number, mqM_sign, mqM_word, MT_.w_tp, MT_.w_size, MT_.w_limit, MT_.w_to, MT_.w_frm, MT_.w_kind, MT_.w_number, MT_.w_sign, MT_.w_word, nqM_rd, nqM_rn, nqM_taped, nqM_mfault, nqM_mplace, nqM_told, nqM_hl, nqM_hd, NR_.w_rd, NR_.w_rn, NR_.w_taped, NR_.w_mfault, NR_.w_mplace, NR_.w_told, NR_.w_hl, NR_.w_hd, qqM_om, QT_.w_om, vqM_nv, NV_.w_nv, zqM_nw, NW_.w_nw] at c_54); simp only [mSent, mSenRead, evqx, hs_58, hs_4, ezqx, hs_59, hs_5, emqx, hs_55, hs_7, enqx, hs_56, hs_10, eqqx, hs_57, hs_11, c_18, c_54, hx_60, hx_61, hx_62, f_63, (eq_true h_64), hx_119, f_120, hx_121, if_true, if_false, mqM_tp, mqM_size, mqM_limit, mqM_to, mqM_frm, mqM_kind, mqM_number, mqM_sign, mqM_word, MT_.w_tp, MT_.w_size, MT_.w_limit, MT_.w_to, MT_.w_frm, MT_.w_kind, MT_.w_number, MT_.w_sign, MT_.w_word, nqM_rd, nqM_rn, nqM_taped, nqM_mfault, nqM_mplace, nqM_told, nqM_hl, nqM_hd, NR_.w_rd, NR_.w_rn, NR_.w_taped, NR_.w_mfault, NR_.w_mplace, NR_.w_told, NR_.w_hl, NR_.w_hd, qqM_om, QT_.w_om, vqM_nv, NV_.w_nv, zqM_nw, NW_.w_nw]), (hd_fq W9 hLx hkx (hd_u (r := 0) W9 hLx hkx (hd_u (r := 0) W9 hLx hkx (hd_u (r := 0) W9 hLx hkx (hd_fq W9 hLx hkx hd_rf hFI_13 (by decide)) hI_24 (Or.inl (ro_o hkx (by decide)))) hI_32 (Or.inl (ro_o hkx (by decide)))) hI_40 (Or.inl (ro_o hkx (by decide)))) hFI_49 (by decide)), (Eq.trans hx_122 mf_124.symm), ((fq_at hFI_49 hLx hkx (by decide) (by decide) (kp_j hI_40 (by decide) (kp_j hI_32 (by decide) (kp_j hI_24 (by decide) ex_12)))))⟩ dX12_sentence_35
set_option maxRecDepth 100000 in
set_option maxHeartbeats 8000000 in
theorem c_X12_isIn_e {l : Launch} {D : va_G} {cy : Nat → ClassId} {L : List Nat} {κ ln : Nat → Nat} {R : Nat → Nat → Option Nat} {I : Nat → Nat → Int32} {J : Nat → Nat → Int64} {ow : Nat → Nat × Nat} (W9 : ∀ a ∈ L, Shp L κ ln R ow a) (a0 : Int32) (a1 : Int32) (a2 : Int32) (hU : Iw L κ R ow I) : CtI l yX12_isIn cX12_isIn 3 (some .boolean) { frames := 0, cells := 0, slots := 0, locals := 0 } D cy L κ ln R I J [.int a0, .int a1, .int a2] (fun r I2 J2 => I = I2 ∧ J = J2 ∧ Rg 0 1 r ∧ (r = isIn_ a0 a1 a2) ∧ (r = 0 → a0.toInt < a1.toInt ∨ a2.toInt < a0.toInt) ∧ (¬ r = 0 → a1 ≤ a0) ∧ (¬ r = 0 → a0 ≤ a2)) := by
  refine CtI.of (by decide +kernel) (Nat.le_of_ble_eq_true rfl) ?_
  intro p e s m below meth c B K
  have C := B.1
  refine g_lo (is := [0, 1, 2]) (lo2 := [(0, .int a0), (1, .int a1), (2, .int a2)]) rfl ?_
  refine g_iload_n C 0 dX12_isIn_0 rfl rfl ?_
  refine g_iload_n C 1 dX12_isIn_1 rfl rfl ?_
  refine g_icmp_lt C (tgt := 14) dX12_isIn_2 (by decide) (fun h_1 => ?_) (fun h_1 => ?_)
  · skip
    have r_2 := lt_l (hi := 2147483646) (h_1) (rg_all a0) (rg_all a1) (by decide)
    have r_3 := lt_r (lo := (-2147483647)) (h_1) (rg_all a0) (rg_all a1) (by decide)
    refine g_iconst C (v := 0) dX12_isIn_14 (by decide) ?_
    exact g_zret (ty := .boolean) (r := 0) B K rfl (rfl) ⟨rfl, rfl, rg_w rc_0 (by decide) (by decide), (by simp only [isIn_, h_1, if_true, if_false]), (fun _ => Or.inl (Int32.lt_iff_toInt_lt.mp (h_1))), (fun q => absurd rfl q), (fun q => absurd rfl q)⟩ dX12_isIn_15
  · skip
    refine g_iload_n C 0 dX12_isIn_5 rfl rfl ?_
    refine g_iload_n C 2 dX12_isIn_6 rfl rfl ?_
    refine g_icmp_gt C (tgt := 14) dX12_isIn_7 (by decide) (fun h_4 => ?_) (fun h_4 => ?_)
    · skip
      have r_5 := lt_l (hi := 2147483646) (h_4) (rg_all a2) (rg_all a0) (by decide)
      have r_6 := lt_r (lo := (-2147483647)) (h_4) (rg_all a2) (rg_all a0) (by decide)
      refine g_iconst C (v := 0) dX12_isIn_14 (by decide) ?_
      exact g_zret (ty := .boolean) (r := 0) B K rfl (rfl) ⟨rfl, rfl, rg_w rc_0 (by decide) (by decide), (by simp only [isIn_, h_1, (nlt h_1), h_4, if_true, if_false]), (fun _ => Or.inr (Int32.lt_iff_toInt_lt.mp (h_4))), (fun q => absurd rfl q), (fun q => absurd rfl q)⟩ dX12_isIn_15
    · skip
      refine g_iconst C (v := 1) dX12_isIn_10 (by decide) ?_
      refine g_goto C (tgt := 15) dX12_isIn_11 (by decide) ?_
      exact g_zret (ty := .boolean) (r := 1) B K rfl (rfl) ⟨rfl, rfl, rg_w rc_1 (by decide) (by decide), (by simp only [isIn_, h_1, (nlt h_1), h_4, (nlt h_4), if_true, if_false]), (fun q => absurd q (by decide)), (fun _ => nlt h_1), (fun _ => nlt h_4)⟩ dX12_isIn_15
set_option maxRecDepth 100000 in
set_option maxHeartbeats 8000000 in
theorem c_X12_book_e {l : Launch} {D : va_G} {cy : Nat → ClassId} {L : List Nat} {κ ln : Nat → Nat} {R : Nat → Nat → Option Nat} {I : Nat → Nat → Int32} {J : Nat → Nat → Int64} {ow : Nat → Nat × Nat} (W9 : ∀ a ∈ L, Shp L κ ln R ow a) {x : Nat} (hLx : x ∈ L) (hkx : κ x = 12) (a0 : Int32) (hU : Iw L κ R ow I) : CtI l yX12_book cX12_book 4 (some .int) { frames := 6, cells := 0, slots := 0, locals := 143 } D cy L κ ln R I J [.ref x, .int a0] (fun r I2 J2 => Iw L κ R ow I2 ∧ Fq L κ ow [1200, 1202, 1203, 1204, 1205, 1206, 1207, 1208, 1209, 1210, 1211, 1213, 1223, 1244, 1245, 83400, 83700, 83800, 86200, 86300] I I2 ∧ Fq L κ ow [1212] J J2 ∧ Rg (-2147483648) 2147483647 r ∧ (I2 x 10 = mBookF a0 (NVf R I J x) (NWf R I J x) (YTf R I J x) (MTf R I J x) (NRf R I J x)) ∧ (Hd_ R x I I2) ∧ (Tb_ (I x 2) (I2 x 2) a0)) := by
  obtain ⟨zf, hzf⟩ : ∃ z, mBookF a0 (NVf R I J x) (NWf R I J x) (YTf R I J x) (MTf R I J x) (NRf R I J x) = z := ⟨_, rfl⟩
  have rzf : Rg (-2147483648) 2147483647 zf := rg_all zf
  obtain ⟨x_1, hx_1, rx_1⟩ := ex_getw (I := I) (a := x) (j := 2) (lo := 0) (hi := 940) hU.1 hLx (ro_o hkx (by decide)) rfl
  refine CtI.of (by decide +kernel) (Nat.le_of_ble_eq_true rfl) ?_
  intro p e s m below meth c B K
  have C := B.1
  have hF : Fq L κ ow [1200, 1202, 1203, 1204, 1205, 1206, 1207, 1208, 1209, 1210, 1211, 1213, 1223, 1244, 1245, 83400, 83700, 83800, 86200, 86300] I I := fq_rf
  have hG : Fq L κ ow [1212] J J := fq_rf
  obtain ⟨b_2, hb_2, hb_2L, hb_2k, hb_2n, hb_2o⟩ := shp_a (W9 x hLx) hkx 14 14 389 rfl (by decide)
  obtain ⟨b_3, hb_3, hb_3L, hb_3k, hb_3n, hb_3o⟩ := shp_a (W9 x hLx) hkx 43 14 4 rfl (by decide)
  obtain ⟨b_4, hb_4, hb_4L, hb_4k, hb_4n, hb_4o⟩ := shp_a (W9 x hLx) hkx 42 14 160 rfl (by decide)
  obtain ⟨b_5, hb_5, hb_5L, hb_5k, hb_5n, hb_5o⟩ := shp_a (W9 x hLx) hkx 19 15 13 rfl (by decide)
  have evqx : ∀ I J, NVf R I J x = NVq I J x b_5 := fun I J => by simp only [NVf, rr_, Option.getD_some, hb_5]
  have wvqx : vqw_ L κ ow x b_5 := ⟨⟨hLx, hb_5L⟩, ⟨(ro_o hkx (by decide)), (ro_a hb_5k (by decide) hb_5o hkx rfl)⟩⟩
  obtain ⟨s_6, hs_6⟩ : ∃ z, NVq I J x b_5 = z := ⟨_, rfl⟩
  have ezqx : ∀ I J, NWf R I J x = NWq I J x b_2 := fun I J => by simp only [NWf, rr_, Option.getD_some, hb_2]
  have wzqx : zqw_ L κ ow x b_2 := ⟨⟨hLx, hb_2L⟩, ⟨(ro_o hkx (by decide)), (ro_a hb_2k (by decide) hb_2o hkx rfl)⟩⟩
  obtain ⟨s_7, hs_7⟩ : ∃ z, NWq I J x b_2 = z := ⟨_, rfl⟩
  have euqx : ∀ I J, YTf R I J x = YTq I J x := fun I J => by simp only [YTf, rr_, Option.getD_some]
  have wuqx : uqw_ L κ ow x := ⟨hLx, (ro_o hkx (by decide))⟩
  obtain ⟨s_8, hs_8⟩ : ∃ z, YTq I J x = z := ⟨_, rfl⟩
  obtain ⟨b_9, hb_9, hb_9L, hb_9k, hb_9n, hb_9o⟩ := shp_a (W9 x hLx) hkx 1 14 940 rfl (by decide)
  have emqx : ∀ I J, MTf R I J x = MTq I J x b_9 := fun I J => by simp only [MTf, rr_, Option.getD_some, hb_9]
  have wmqx : mqw_ L κ ow x b_9 := ⟨⟨hLx, hb_9L⟩, ⟨(ro_o hkx (by decide)), (ro_a hb_9k (by decide) hb_9o hkx rfl)⟩⟩
  obtain ⟨s_10, hs_10⟩ : ∃ z, MTq I J x b_9 = z := ⟨_, rfl⟩
  obtain ⟨b_11, hb_11, hb_11L, hb_11k, hb_11n, hb_11o⟩ := shp_a (W9 x hLx) hkx 15 14 72 rfl (by decide)
  obtain ⟨b_12, hb_12, hb_12L, hb_12k, hb_12n, hb_12o⟩ := shp_a (W9 x hLx) hkx 20 15 13 rfl (by decide)
  have enqx : ∀ I J, NRf R I J x = NRq I J x b_11 b_12 := fun I J => by simp only [NRf, rr_, Option.getD_some, hb_11, hb_12]
  have wnqx : nqw_ L κ ow x b_11 b_12 := ⟨⟨hLx, hb_11L, hb_12L⟩, ⟨(ro_o hkx (by decide)), (ro_a hb_11k (by decide) hb_11o hkx rfl), (ro_a hb_12k (by decide) hb_12o hkx rfl)⟩⟩
  obtain ⟨s_13, hs_13⟩ : ∃ z, NRq I J x b_11 b_12 = z := ⟨_, rfl⟩
  refine g_lo (is := [0, 1]) (lo2 := [(0, .ref x), (1, .int a0)]) rfl ?_
  have l_73 : ∀ (n_73 : Nat) (I_14 : Nat → Nat → Int32) (J_15 : Nat → Nat → Int64) (hU_16 : Iw L κ R ow I_14) (hF_17 : Fq L κ ow [1200, 1202, 1203, 1204, 1205, 1206, 1207, 1208, 1209, 1210, 1211, 1213, 1223, 1244, 1245, 83400, 83700, 83800, 86200, 86300] I I_14) (hG_18 : Fq L κ ow [1212] J J_15) (r_19 : Rg 0 1 a0) (v_20 : Int32) (rv_20 : Rg 0 40 v_20) (v_21 : Int32) (rv_21 : Rg 0 0 v_21) (v_22 : Int32) (v_23 : Int32) (rv_23 : Rg 0 40 v_23) (v_24 : Int32) (rv_24 : Rg 0 0 v_24) (q_25 : I_14 x 10 = v_22) (q_26 : I_14 x 2 = 0) (q_27 : I_14 x 44 = v_23) (q_28 : I_14 x 7 = v_24) (hd_29 : Hd_ R x I I_14) (ga_30 : Ga_ R x I_14) (hq_31 : zf + 0 = zf + 0) (zq_32 : I_14 x 10 = zf) (hm_33 : 40 < (v_20 : Int32).toInt + (n_73 : Int)), WG p l e { frames := 6, cells := 0, slots := 0, locals := 143 } s m ([.ref x, .int a0] : List Value).toArray below meth c 4 0 0 (MQ below (Qi_ D cy L κ ln R (fun r I2 J2 => Iw L κ R ow I2 ∧ Fq L κ ow [1200, 1202, 1203, 1204, 1205, 1206, 1207, 1208, 1209, 1210, 1211, 1213, 1223, 1244, 1245, 83400, 83700, 83800, 86200, 86300] I I2 ∧ Fq L κ ow [1212] J J2 ∧ Rg (-2147483648) 2147483647 r ∧ (I2 x 10 = mBookF a0 (NVf R I J x) (NWf R I J x) (YTf R I J x) (MTf R I J x) (NRf R I J x)) ∧ (Hd_ R x I I2) ∧ (Tb_ (I x 2) (I2 x 2) a0))) ([.ref x, .int a0] : List Value).toArray s 0 0 (Al_ L)) D cy (Al_ L) s.heap L κ ln R I_14 J_15 73 [(0, .ref x), (1, .int a0), (2, .int v_20), (3, .int v_21)] [] := by
    intro n_73
    induction n_73 with
    | zero =>
      intro I_14 J_15 hU_16 hF_17 hG_18 r_19 v_20 rv_20 v_21 rv_21 v_22 v_23 rv_23 v_24 rv_24 q_25 q_26 q_27 q_28 hd_29 ga_30 hq_31 zq_32 hm_33
      exact ms_0 rv_20 hm_33
    | succ n_73 ih_73 =>
      intro I_14 J_15 hU_16 hF_17 hG_18 r_19 v_20 rv_20 v_21 rv_21 v_22 v_23 rv_23 v_24 rv_24 q_25 q_26 q_27 q_28 hd_29 ga_30 hq_31 zq_32 hm_33
      obtain ⟨s_34, hs_34⟩ : ∃ z, NVq I_14 J_15 x b_5 = z := ⟨_, rfl⟩
      obtain ⟨s_35, hs_35⟩ : ∃ z, NWq I_14 J_15 x b_2 = z := ⟨_, rfl⟩
      obtain ⟨s_36, hs_36⟩ : ∃ z, YTq I_14 J_15 x = z := ⟨_, rfl⟩
      obtain ⟨s_37, hs_37⟩ : ∃ z, MTq I_14 J_15 x b_9 = z := ⟨_, rfl⟩
      obtain ⟨s_38, hs_38⟩ : ∃ z, NRq I_14 J_15 x b_11 b_12 = z := ⟨_, rfl⟩
      (try simp only [hs_34, hs_35, hs_36, hs_37, hs_38] at hq_31)
      refine g_iload_n C 2 dX12_book_73 rfl rfl ?_
      refine g_aload_n C 0 dX12_book_74 rfl rfl ?_
      refine g_getI C K hLx hkx f_12_361 (v := v_23) q_27 dX12_book_75 ?_
      refine g_icmp_ge C (tgt := 103) dX12_book_78 (by decide) (fun h_39 => ?_) (fun h_39 => ?_)
      · skip
        refine g_aload_n C 0 dX12_book_103 rfl rfl ?_
        refine g_getR C K hLx hkx f_12_76 hb_3 dX12_book_104 ?_
        refine g_iconst C (v := 0) dX12_book_107 (by decide) ?_
        refine g_iload_n C 3 dX12_book_108 rfl rfl ?_
        refine h_iast C K hb_3L hb_3k (0) (by decide) (by decide) (by rw [hb_3n]; decide) dX12_book_109 (fun I_40 hI_40 => ?_)
        have hU_41 := iw_put W9 hU_16 hI_40 (ro_a hb_3k (by decide) hb_3o hkx rfl) (lo := (-2147483648)) (hi := 2147483647) (rfl) (rg_all _) rfl
        have hF_42 := fq_puta hF_17 hI_40 (ro_a hb_3k (by decide) hb_3o hkx rfl) (by decide) (by decide)
        refine g_aload_n C 0 dX12_book_110 rfl rfl ?_
        refine g_getR C K hLx hkx f_12_76 hb_3 dX12_book_111 ?_
        refine g_iconst C (v := 1) dX12_book_114 (by decide) ?_
        refine g_iload_n C 2 dX12_book_115 rfl rfl ?_
        refine h_iast C K hb_3L hb_3k (1) (by decide) (by decide) (by rw [hb_3n]; decide) dX12_book_116 (fun I_43 hI_43 => ?_)
        have hU_44 := iw_put W9 hU_41 hI_43 (ro_a hb_3k (by decide) hb_3o hkx rfl) (lo := (-2147483648)) (hi := 2147483647) (rfl) (rg_all _) rfl
        have hF_45 := fq_puta hF_42 hI_43 (ro_a hb_3k (by decide) hb_3o hkx rfl) (by decide) (by decide)
        refine g_aload_n C 0 dX12_book_117 rfl rfl ?_
        refine g_getR C K hLx hkx f_12_76 hb_3 dX12_book_118 ?_
        refine g_iconst C (v := 2) dX12_book_121 (by decide) ?_
        refine g_aload_n C 0 dX12_book_122 rfl rfl ?_
        refine g_getR C K hLx hkx f_12_13 hb_2 dX12_book_123 ?_
        refine g_bipush C (v := 72) dX12_book_126 (by decide) ?_
        obtain ⟨x_46, hx_46, rx_46⟩ := ex_any (z0 := I_43 b_2 (72))
        refine h_iald C K hb_2L hb_2k (v := x_46) (72) (by decide) (by decide) (by rw [hb_2n]; decide) hx_46 dX12_book_128 ?_
        refine h_iast C K hb_3L hb_3k (2) (by decide) (by decide) (by rw [hb_3n]; decide) dX12_book_129 (fun I_47 hI_47 => ?_)
        have hU_48 := iw_put W9 hU_44 hI_47 (ro_a hb_3k (by decide) hb_3o hkx rfl) (lo := (-2147483648)) (hi := 2147483647) (rfl) (rx_46) rfl
        have hF_49 := fq_puta hF_45 hI_47 (ro_a hb_3k (by decide) hb_3o hkx rfl) (by decide) (by decide)
        refine g_aload_n C 0 dX12_book_130 rfl rfl ?_
        refine g_getR C K hLx hkx f_12_76 hb_3 dX12_book_131 ?_
        refine g_iconst C (v := 3) dX12_book_134 (by decide) ?_
        refine g_aload_n C 0 dX12_book_135 rfl rfl ?_
        refine g_getR C K hLx hkx f_12_13 hb_2 dX12_book_136 ?_
        refine g_bipush C (v := 73) dX12_book_139 (by decide) ?_
        obtain ⟨x_50, hx_50, rx_50⟩ := ex_any (z0 := I_47 b_2 (73))
        refine h_iald C K hb_2L hb_2k (v := x_50) (73) (by decide) (by decide) (by rw [hb_2n]; decide) hx_50 dX12_book_141 ?_
        refine h_iast C K hb_3L hb_3k (3) (by decide) (by decide) (by rw [hb_3n]; decide) dX12_book_142 (fun I_51 hI_51 => ?_)
        have hU_52 := iw_put W9 hU_48 hI_51 (ro_a hb_3k (by decide) hb_3o hkx rfl) (lo := (-2147483648)) (hi := 2147483647) (rfl) (rx_50) rfl
        have hF_53 := fq_puta hF_49 hI_51 (ro_a hb_3k (by decide) hb_3o hkx rfl) (by decide) (by decide)
        refine g_aload_n C 0 dX12_book_143 rfl rfl ?_
        refine g_iconst C (v := 1) dX12_book_144 (by decide) ?_
        refine h_putZ C K hLx hkx f_12_373 p_12_45 (rg_bool (rg_w rc_1 (by decide) (by decide))) dX12_book_145 (fun I_54 hI_54 => ?_)
        have hU_55 := iw_put W9 hU_52 hI_54 (ro_o hkx (by decide)) (lo := 0) (hi := 1) (rfl) (rg_w rc_1 (by decide) (by decide)) rfl
        have hF_56 := fq_puto hF_53 hI_54 hkx (by decide) (by decide)
        refine g_aload_n C 0 dX12_book_148 rfl rfl ?_
        refine g_iload_n C 1 dX12_book_149 rfl rfl ?_
        refine g_iconst C (v := 1) dX12_book_150 (by decide) ?_
        refine g_icmp_ne C (tgt := 162) dX12_book_151 (by decide) (fun h_57 => ?_) (fun h_57 => ?_)
        · skip
          have n_58 : ¬ a0 = 1 := h_57
          have r_59 := ne_hi (hi := 0) n_58 r_19 rc_1 rfl (by decide)
          refine g_iconst C (v := 0) dX12_book_162 (by decide) ?_
          refine g_callVV C K (c_X12_stay W9 hLx hkx 0 (rg_w rc_0 (by decide) (by decide)) hU_55  ((ga_u (r := 0) W9 hLx hkx (ga_u W9 hLx hkx (ga_u W9 hLx hkx (ga_u W9 hLx hkx (ga_u W9 hLx hkx ga_30 hI_40 (Or.inr (Or.inl ⟨(ro_a hb_3k (by decide) hb_3o hkx rfl), by decide, by decide⟩))) hI_43 (Or.inr (Or.inl ⟨(ro_a hb_3k (by decide) hb_3o hkx rfl), by decide, by decide⟩))) hI_47 (Or.inr (Or.inl ⟨(ro_a hb_3k (by decide) hb_3o hkx rfl), by decide, by decide⟩))) hI_51 (Or.inr (Or.inl ⟨(ro_a hb_3k (by decide) hb_3o hkx rfl), by decide, by decide⟩))) hI_54 (Or.inl (ro_o hkx (by decide)))))) hLx hkx (by decide) rfl v_12_376 rfl ⟨rfl, rfl⟩ ⟨Nat.le_of_ble_eq_true rfl, Nat.le_of_ble_eq_true rfl⟩ (Nat.le_of_ble_eq_true rfl) ⟨Nat.le_of_ble_eq_true rfl, Nat.le_of_ble_eq_true rfl⟩ dX12_book_163 rfl (st := []) (fun I_61 J_62 h_63 => ?_)
          obtain ⟨hUI_61, hFI_61, hGJ_62, ex_60⟩ := h_63
          have hF_64 := fq_tr hF_56 hFI_61 (by decide)
          have hG_65 := fq_tr hG_18 hGJ_62 (by decide)
          refine g_iload_n C 3 dX12_book_166 rfl rfl ?_
          refine g_if_ne C (tgt := 174) dX12_book_167 (by decide) (fun h_66 => ?_) (fun h_66 => ?_)
          · skip
            exact ne_no (h_66) rv_21 rc_0
          · skip
            refine g_iconst C (v := (-1)) dX12_book_170 (by decide) ?_
            refine g_goto C (tgt := 175) dX12_book_171 (by decide) ?_
            have q_67 := (fq_at hFI_61 hLx hkx (by decide) (by decide) (kp_j hI_54 (by decide) (kp_k (κ := κ) hI_51 (by rw [hkx, hb_3k]; decide) (kp_k (κ := κ) hI_47 (by rw [hkx, hb_3k]; decide) (kp_k (κ := κ) hI_43 (by rw [hkx, hb_3k]; decide) (kp_k (κ := κ) hI_40 (by rw [hkx, hb_3k]; decide) zq_32))))))
            have q_68 := (fq_at hFI_61 hLx hkx (by decide) (by decide) (kp_j hI_54 (by decide) (kp_k (κ := κ) hI_51 (by rw [hkx, hb_3k]; decide) (kp_k (κ := κ) hI_47 (by rw [hkx, hb_3k]; decide) (kp_k (κ := κ) hI_43 (by rw [hkx, hb_3k]; decide) (kp_k (κ := κ) hI_40 (by rw [hkx, hb_3k]; decide) q_26))))))
            exact g_zret (ty := .int) (r := (-1)) B K rfl (rfl) ⟨hUI_61, hF_64, hG_65, rg_all _, (Eq.trans q_67 hzf.symm), (hd_t (hd_u (r := 0) W9 hLx hkx (hd_u W9 hLx hkx (hd_u W9 hLx hkx (hd_u W9 hLx hkx (hd_u W9 hLx hkx hd_29 hI_40 (Or.inr (Or.inl ⟨(ro_a hb_3k (by decide) hb_3o hkx rfl), by decide⟩))) hI_43 (Or.inr (Or.inl ⟨(ro_a hb_3k (by decide) hb_3o hkx rfl), by decide⟩))) hI_47 (Or.inr (Or.inl ⟨(ro_a hb_3k (by decide) hb_3o hkx rfl), by decide⟩))) hI_51 (Or.inr (Or.inl ⟨(ro_a hb_3k (by decide) hb_3o hkx rfl), by decide⟩))) hI_54 (Or.inl (ro_o hkx (by decide)))) ex_60), (Or.inl ⟨Or.inl (rg_1k r_59 rc_0), q_68⟩)⟩ dX12_book_175
        · skip
          have r_69 := (⟨(eq_rg (h_57) rc_1).1, (r_19).2⟩ : Rg 1 1 a0)
          refine g_iload_n C 2 dX12_book_154 rfl rfl ?_
          refine g_if_le C (tgt := 162) dX12_book_155 (by decide) (fun h_70 => ?_) (fun h_70 => ?_)
          · skip
            have r_71 := le_l (h_70) rv_20 rc_0
            refine g_iconst C (v := 0) dX12_book_162 (by decide) ?_
            refine g_callVV C K (c_X12_stay W9 hLx hkx 0 (rg_w rc_0 (by decide) (by decide)) hU_55  ((ga_u (r := 0) W9 hLx hkx (ga_u W9 hLx hkx (ga_u W9 hLx hkx (ga_u W9 hLx hkx (ga_u W9 hLx hkx ga_30 hI_40 (Or.inr (Or.inl ⟨(ro_a hb_3k (by decide) hb_3o hkx rfl), by decide, by decide⟩))) hI_43 (Or.inr (Or.inl ⟨(ro_a hb_3k (by decide) hb_3o hkx rfl), by decide, by decide⟩))) hI_47 (Or.inr (Or.inl ⟨(ro_a hb_3k (by decide) hb_3o hkx rfl), by decide, by decide⟩))) hI_51 (Or.inr (Or.inl ⟨(ro_a hb_3k (by decide) hb_3o hkx rfl), by decide, by decide⟩))) hI_54 (Or.inl (ro_o hkx (by decide)))))) hLx hkx (by decide) rfl v_12_376 rfl ⟨rfl, rfl⟩ ⟨Nat.le_of_ble_eq_true rfl, Nat.le_of_ble_eq_true rfl⟩ (Nat.le_of_ble_eq_true rfl) ⟨Nat.le_of_ble_eq_true rfl, Nat.le_of_ble_eq_true rfl⟩ dX12_book_163 rfl (st := []) (fun I_73 J_74 h_75 => ?_)
            obtain ⟨hUI_73, hFI_73, hGJ_74, ex_72⟩ := h_75
            have hF_76 := fq_tr hF_56 hFI_73 (by decide)
            have hG_77 := fq_tr hG_18 hGJ_74 (by decide)
            refine g_iload_n C 3 dX12_book_166 rfl rfl ?_
            refine g_if_ne C (tgt := 174) dX12_book_167 (by decide) (fun h_78 => ?_) (fun h_78 => ?_)
            · skip
              exact ne_no (h_78) rv_21 rc_0
            · skip
              refine g_iconst C (v := (-1)) dX12_book_170 (by decide) ?_
              refine g_goto C (tgt := 175) dX12_book_171 (by decide) ?_
              have q_79 := (fq_at hFI_73 hLx hkx (by decide) (by decide) (kp_j hI_54 (by decide) (kp_k (κ := κ) hI_51 (by rw [hkx, hb_3k]; decide) (kp_k (κ := κ) hI_47 (by rw [hkx, hb_3k]; decide) (kp_k (κ := κ) hI_43 (by rw [hkx, hb_3k]; decide) (kp_k (κ := κ) hI_40 (by rw [hkx, hb_3k]; decide) zq_32))))))
              have q_80 := (fq_at hFI_73 hLx hkx (by decide) (by decide) (kp_j hI_54 (by decide) (kp_k (κ := κ) hI_51 (by rw [hkx, hb_3k]; decide) (kp_k (κ := κ) hI_47 (by rw [hkx, hb_3k]; decide) (kp_k (κ := κ) hI_43 (by rw [hkx, hb_3k]; decide) (kp_k (κ := κ) hI_40 (by rw [hkx, hb_3k]; decide) q_26))))))
              exact g_zret (ty := .int) (r := (-1)) B K rfl (rfl) ⟨hUI_73, hF_76, hG_77, rg_all _, (Eq.trans q_79 hzf.symm), (hd_t (hd_u (r := 0) W9 hLx hkx (hd_u W9 hLx hkx (hd_u W9 hLx hkx (hd_u W9 hLx hkx (hd_u W9 hLx hkx hd_29 hI_40 (Or.inr (Or.inl ⟨(ro_a hb_3k (by decide) hb_3o hkx rfl), by decide⟩))) hI_43 (Or.inr (Or.inl ⟨(ro_a hb_3k (by decide) hb_3o hkx rfl), by decide⟩))) hI_47 (Or.inr (Or.inl ⟨(ro_a hb_3k (by decide) hb_3o hkx rfl), by decide⟩))) hI_51 (Or.inr (Or.inl ⟨(ro_a hb_3k (by decide) hb_3o hkx rfl), by decide⟩))) hI_54 (Or.inl (ro_o hkx (by decide)))) ex_72), (Or.inl ⟨Or.inr (rg_1k r_69 rc_1), q_80⟩)⟩ dX12_book_175
          · skip
            have r_81 := lt_r (lo := 1) (nle h_70) rc_0 rv_20 (by decide)
            refine g_iconst C (v := 1) dX12_book_158 (by decide) ?_
            refine g_goto C (tgt := 163) dX12_book_159 (by decide) ?_
            refine g_callVV C K (c_X12_stay W9 hLx hkx 1 (rg_w rc_1 (by decide) (by decide)) hU_55  ((ga_u (r := 0) W9 hLx hkx (ga_u W9 hLx hkx (ga_u W9 hLx hkx (ga_u W9 hLx hkx (ga_u W9 hLx hkx ga_30 hI_40 (Or.inr (Or.inl ⟨(ro_a hb_3k (by decide) hb_3o hkx rfl), by decide, by decide⟩))) hI_43 (Or.inr (Or.inl ⟨(ro_a hb_3k (by decide) hb_3o hkx rfl), by decide, by decide⟩))) hI_47 (Or.inr (Or.inl ⟨(ro_a hb_3k (by decide) hb_3o hkx rfl), by decide, by decide⟩))) hI_51 (Or.inr (Or.inl ⟨(ro_a hb_3k (by decide) hb_3o hkx rfl), by decide, by decide⟩))) hI_54 (Or.inl (ro_o hkx (by decide)))))) hLx hkx (by decide) rfl v_12_376 rfl ⟨rfl, rfl⟩ ⟨Nat.le_of_ble_eq_true rfl, Nat.le_of_ble_eq_true rfl⟩ (Nat.le_of_ble_eq_true rfl) ⟨Nat.le_of_ble_eq_true rfl, Nat.le_of_ble_eq_true rfl⟩ dX12_book_163 rfl (st := []) (fun I_83 J_84 h_85 => ?_)
            obtain ⟨hUI_83, hFI_83, hGJ_84, ex_82⟩ := h_85
            have hF_86 := fq_tr hF_56 hFI_83 (by decide)
            have hG_87 := fq_tr hG_18 hGJ_84 (by decide)
            refine g_iload_n C 3 dX12_book_166 rfl rfl ?_
            refine g_if_ne C (tgt := 174) dX12_book_167 (by decide) (fun h_88 => ?_) (fun h_88 => ?_)
            · skip
              exact ne_no (h_88) rv_21 rc_0
            · skip
              refine g_iconst C (v := (-1)) dX12_book_170 (by decide) ?_
              refine g_goto C (tgt := 175) dX12_book_171 (by decide) ?_
              have q_89 := (fq_at hFI_83 hLx hkx (by decide) (by decide) (kp_j hI_54 (by decide) (kp_k (κ := κ) hI_51 (by rw [hkx, hb_3k]; decide) (kp_k (κ := κ) hI_47 (by rw [hkx, hb_3k]; decide) (kp_k (κ := κ) hI_43 (by rw [hkx, hb_3k]; decide) (kp_k (κ := κ) hI_40 (by rw [hkx, hb_3k]; decide) zq_32))))))
              have q_90 := (fq_at hFI_83 hLx hkx (by decide) (by decide) (kp_j hI_54 (by decide) (kp_k (κ := κ) hI_51 (by rw [hkx, hb_3k]; decide) (kp_k (κ := κ) hI_47 (by rw [hkx, hb_3k]; decide) (kp_k (κ := κ) hI_43 (by rw [hkx, hb_3k]; decide) (kp_k (κ := κ) hI_40 (by rw [hkx, hb_3k]; decide) q_26))))))
              exact g_zret (ty := .int) (r := (-1)) B K rfl (rfl) ⟨hUI_83, hF_86, hG_87, rg_all _, (Eq.trans q_89 hzf.symm), (hd_t (hd_u (r := 0) W9 hLx hkx (hd_u W9 hLx hkx (hd_u W9 hLx hkx (hd_u W9 hLx hkx (hd_u W9 hLx hkx hd_29 hI_40 (Or.inr (Or.inl ⟨(ro_a hb_3k (by decide) hb_3o hkx rfl), by decide⟩))) hI_43 (Or.inr (Or.inl ⟨(ro_a hb_3k (by decide) hb_3o hkx rfl), by decide⟩))) hI_47 (Or.inr (Or.inl ⟨(ro_a hb_3k (by decide) hb_3o hkx rfl), by decide⟩))) hI_51 (Or.inr (Or.inl ⟨(ro_a hb_3k (by decide) hb_3o hkx rfl), by decide⟩))) hI_54 (Or.inl (ro_o hkx (by decide)))) ex_82), (Or.inl ⟨Or.inr (rg_1k r_69 rc_1), q_90⟩)⟩ dX12_book_175
      · skip
        have r_91 := lt_l (hi := 39) (nle h_39) rv_20 rv_23 (by decide)
        have r_92 := lt_r (lo := 1) (nle h_39) rv_20 rv_23 (by decide)
        refine g_iload_n C 3 dX12_book_81 rfl rfl ?_
        refine g_if_ne C (tgt := 103) dX12_book_82 (by decide) (fun h_93 => ?_) (fun h_93 => ?_)
        · skip
          exact ne_no (h_93) rv_21 rc_0
        · skip
          refine g_aload_n C 0 dX12_book_85 rfl rfl ?_
          refine g_iconst C (v := 4) dX12_book_86 (by decide) ?_
          refine g_iload_n C 2 dX12_book_87 rfl rfl ?_
          obtain ⟨x_94, hx_94, rx_94, tx_94⟩ := ex_mulT 0 156 rc_4 r_91 (by decide) (by decide) (by decide) (by decide) (by decide)
          refine g_imul C (v := x_94) dX12_book_88 hx_94 ?_
          refine g_callVI C K (c_X12_goBy W9 hLx hkx x_94 (rx_94) hU_16  ((md_m tx_94)) (fun rw hr => by rw [nx_m (k := 4) tx_94 r_91 (by decide)]; exact gm_ln W9 hU_16.2 hLx hkx hr (by rw [ix_n r_91 (by decide), q_27]; exact Int32.lt_iff_toInt_lt.mp (nle h_39)))) hLx hkx (by decide) rfl v_12_370 rfl ⟨rfl, rfl⟩ ⟨Nat.le_of_ble_eq_true rfl, Nat.le_of_ble_eq_true rfl⟩ (Nat.le_of_ble_eq_true rfl) ⟨Nat.le_of_ble_eq_true rfl, Nat.le_of_ble_eq_true rfl⟩ dX12_book_89 rfl (st := []) (fun x_95 I_96 J_97 h_98 => ?_)
          obtain ⟨hUI_96, hFI_96, hGJ_97, rx_95, ex_95⟩ := h_98
          have hF_99 := fq_tr hF_17 hFI_96 (by decide)
          have hG_100 := fq_tr hG_18 hGJ_97 (by decide)
          refine g_istore_n C dX12_book_92 rfl (by decide) (lo2 := [(3, .int x_95), (0, .ref x), (1, .int a0), (2, .int v_20)]) rfl ?_
          refine g_iload_n C 0 dX12_book_93 rfl rfl ?_
          refine g_if_ne C (tgt := 73) dX12_book_94 (by decide) (fun h_101 => ?_) (fun h_101 => ?_)
          · skip
            have n_102 : ¬ x_95 = 0 := h_101
            have r_103 := ne_lo (lo := 1) n_102 rx_95 rc_0 rfl (by decide)
            refine g_iload_n C 3 dX12_book_73 rfl rfl ?_
            refine g_aload_n C 1 dX12_book_74 rfl rfl ?_
            refine g_getI C K hLx hkx f_12_361 (v := v_23) (fq_at hFI_96 hLx hkx (by decide) (by decide) q_27) dX12_book_75 ?_
            refine g_icmp_ge C (tgt := 103) dX12_book_78 (by decide) (fun h_104 => ?_) (fun h_104 => ?_)
            · skip
              have r_105 := le_l (h_104) r_92 r_91
              have r_106 := le_r (h_104) r_92 r_91
              refine g_aload_n C 1 dX12_book_103 rfl rfl ?_
              refine g_getR C K hLx hkx f_12_76 hb_3 dX12_book_104 ?_
              refine g_iconst C (v := 0) dX12_book_107 (by decide) ?_
              refine g_iload_n C 0 dX12_book_108 rfl rfl ?_
              refine h_iast C K hb_3L hb_3k (0) (by decide) (by decide) (by rw [hb_3n]; decide) dX12_book_109 (fun I_107 hI_107 => ?_)
              have hU_108 := iw_put W9 hUI_96 hI_107 (ro_a hb_3k (by decide) hb_3o hkx rfl) (lo := (-2147483648)) (hi := 2147483647) (rfl) (rg_all _) rfl
              have hF_109 := fq_puta hF_99 hI_107 (ro_a hb_3k (by decide) hb_3o hkx rfl) (by decide) (by decide)
              refine g_aload_n C 1 dX12_book_110 rfl rfl ?_
              refine g_getR C K hLx hkx f_12_76 hb_3 dX12_book_111 ?_
              refine g_iconst C (v := 1) dX12_book_114 (by decide) ?_
              refine g_iload_n C 3 dX12_book_115 rfl rfl ?_
              refine h_iast C K hb_3L hb_3k (1) (by decide) (by decide) (by rw [hb_3n]; decide) dX12_book_116 (fun I_110 hI_110 => ?_)
              have hU_111 := iw_put W9 hU_108 hI_110 (ro_a hb_3k (by decide) hb_3o hkx rfl) (lo := (-2147483648)) (hi := 2147483647) (rfl) (rg_all _) rfl
              have hF_112 := fq_puta hF_109 hI_110 (ro_a hb_3k (by decide) hb_3o hkx rfl) (by decide) (by decide)
              refine g_aload_n C 1 dX12_book_117 rfl rfl ?_
              refine g_getR C K hLx hkx f_12_76 hb_3 dX12_book_118 ?_
              refine g_iconst C (v := 2) dX12_book_121 (by decide) ?_
              refine g_aload_n C 1 dX12_book_122 rfl rfl ?_
              refine g_getR C K hLx hkx f_12_13 hb_2 dX12_book_123 ?_
              refine g_bipush C (v := 72) dX12_book_126 (by decide) ?_
              obtain ⟨x_113, hx_113, rx_113⟩ := ex_any (z0 := I_110 b_2 (72))
              refine h_iald C K hb_2L hb_2k (v := x_113) (72) (by decide) (by decide) (by rw [hb_2n]; decide) hx_113 dX12_book_128 ?_
              refine h_iast C K hb_3L hb_3k (2) (by decide) (by decide) (by rw [hb_3n]; decide) dX12_book_129 (fun I_114 hI_114 => ?_)
              have hU_115 := iw_put W9 hU_111 hI_114 (ro_a hb_3k (by decide) hb_3o hkx rfl) (lo := (-2147483648)) (hi := 2147483647) (rfl) (rx_113) rfl
              have hF_116 := fq_puta hF_112 hI_114 (ro_a hb_3k (by decide) hb_3o hkx rfl) (by decide) (by decide)
              refine g_aload_n C 1 dX12_book_130 rfl rfl ?_
              refine g_getR C K hLx hkx f_12_76 hb_3 dX12_book_131 ?_
              refine g_iconst C (v := 3) dX12_book_134 (by decide) ?_
              refine g_aload_n C 1 dX12_book_135 rfl rfl ?_
              refine g_getR C K hLx hkx f_12_13 hb_2 dX12_book_136 ?_
              refine g_bipush C (v := 73) dX12_book_139 (by decide) ?_
              obtain ⟨x_117, hx_117, rx_117⟩ := ex_any (z0 := I_114 b_2 (73))
              refine h_iald C K hb_2L hb_2k (v := x_117) (73) (by decide) (by decide) (by rw [hb_2n]; decide) hx_117 dX12_book_141 ?_
              refine h_iast C K hb_3L hb_3k (3) (by decide) (by decide) (by rw [hb_3n]; decide) dX12_book_142 (fun I_118 hI_118 => ?_)
              have hU_119 := iw_put W9 hU_115 hI_118 (ro_a hb_3k (by decide) hb_3o hkx rfl) (lo := (-2147483648)) (hi := 2147483647) (rfl) (rx_117) rfl
              have hF_120 := fq_puta hF_116 hI_118 (ro_a hb_3k (by decide) hb_3o hkx rfl) (by decide) (by decide)
              refine g_aload_n C 1 dX12_book_143 rfl rfl ?_
              refine g_iconst C (v := 1) dX12_book_144 (by decide) ?_
              refine h_putZ C K hLx hkx f_12_373 p_12_45 (rg_bool (rg_w rc_1 (by decide) (by decide))) dX12_book_145 (fun I_121 hI_121 => ?_)
              have hU_122 := iw_put W9 hU_119 hI_121 (ro_o hkx (by decide)) (lo := 0) (hi := 1) (rfl) (rg_w rc_1 (by decide) (by decide)) rfl
              have hF_123 := fq_puto hF_120 hI_121 hkx (by decide) (by decide)
              refine g_aload_n C 1 dX12_book_148 rfl rfl ?_
              refine g_iload_n C 2 dX12_book_149 rfl rfl ?_
              refine g_iconst C (v := 1) dX12_book_150 (by decide) ?_
              refine g_icmp_ne C (tgt := 162) dX12_book_151 (by decide) (fun h_124 => ?_) (fun h_124 => ?_)
              · skip
                have n_125 : ¬ a0 = 1 := h_124
                have r_126 := ne_hi (hi := 0) n_125 r_19 rc_1 rfl (by decide)
                refine g_iconst C (v := 0) dX12_book_162 (by decide) ?_
                refine g_callVV C K (c_X12_stay W9 hLx hkx 0 (rg_w rc_0 (by decide) (by decide)) hU_122  ((ga_u (r := 0) W9 hLx hkx (ga_u W9 hLx hkx (ga_u W9 hLx hkx (ga_u W9 hLx hkx (ga_u W9 hLx hkx (ga_mv W9 hLx hkx ga_30 ex_95 hFI_96 (by decide)) hI_107 (Or.inr (Or.inl ⟨(ro_a hb_3k (by decide) hb_3o hkx rfl), by decide, by decide⟩))) hI_110 (Or.inr (Or.inl ⟨(ro_a hb_3k (by decide) hb_3o hkx rfl), by decide, by decide⟩))) hI_114 (Or.inr (Or.inl ⟨(ro_a hb_3k (by decide) hb_3o hkx rfl), by decide, by decide⟩))) hI_118 (Or.inr (Or.inl ⟨(ro_a hb_3k (by decide) hb_3o hkx rfl), by decide, by decide⟩))) hI_121 (Or.inl (ro_o hkx (by decide)))))) hLx hkx (by decide) rfl v_12_376 rfl ⟨rfl, rfl⟩ ⟨Nat.le_of_ble_eq_true rfl, Nat.le_of_ble_eq_true rfl⟩ (Nat.le_of_ble_eq_true rfl) ⟨Nat.le_of_ble_eq_true rfl, Nat.le_of_ble_eq_true rfl⟩ dX12_book_163 rfl (st := []) (fun I_128 J_129 h_130 => ?_)
                obtain ⟨hUI_128, hFI_128, hGJ_129, ex_127⟩ := h_130
                have hF_131 := fq_tr hF_123 hFI_128 (by decide)
                have hG_132 := fq_tr hG_100 hGJ_129 (by decide)
                refine g_iload_n C 0 dX12_book_166 rfl rfl ?_
                refine g_if_ne C (tgt := 174) dX12_book_167 (by decide) (fun h_133 => ?_) (fun h_133 => ?_)
                · skip
                  have n_134 : ¬ x_95 = 0 := h_133
                  refine g_iload_n C 3 dX12_book_174 rfl rfl ?_
                  have q_135 := (fq_at hFI_128 hLx hkx (by decide) (by decide) (kp_j hI_121 (by decide) (kp_k (κ := κ) hI_118 (by rw [hkx, hb_3k]; decide) (kp_k (κ := κ) hI_114 (by rw [hkx, hb_3k]; decide) (kp_k (κ := κ) hI_110 (by rw [hkx, hb_3k]; decide) (kp_k (κ := κ) hI_107 (by rw [hkx, hb_3k]; decide) (fq_at hFI_96 hLx hkx (by decide) (by decide) zq_32)))))))
                  have q_136 := (fq_at hFI_128 hLx hkx (by decide) (by decide) (kp_j hI_121 (by decide) (kp_k (κ := κ) hI_118 (by rw [hkx, hb_3k]; decide) (kp_k (κ := κ) hI_114 (by rw [hkx, hb_3k]; decide) (kp_k (κ := κ) hI_110 (by rw [hkx, hb_3k]; decide) (kp_k (κ := κ) hI_107 (by rw [hkx, hb_3k]; decide) (fq_at hFI_96 hLx hkx (by decide) (by decide) q_26)))))))
                  exact g_zret (ty := .int) (r := v_20) B K rfl (rfl) ⟨hUI_128, hF_131, hG_132, rg_all _, (Eq.trans q_135 hzf.symm), (hd_t (hd_u (r := 0) W9 hLx hkx (hd_u W9 hLx hkx (hd_u W9 hLx hkx (hd_u W9 hLx hkx (hd_u W9 hLx hkx (hd_t hd_29 ex_95) hI_107 (Or.inr (Or.inl ⟨(ro_a hb_3k (by decide) hb_3o hkx rfl), by decide⟩))) hI_110 (Or.inr (Or.inl ⟨(ro_a hb_3k (by decide) hb_3o hkx rfl), by decide⟩))) hI_114 (Or.inr (Or.inl ⟨(ro_a hb_3k (by decide) hb_3o hkx rfl), by decide⟩))) hI_118 (Or.inr (Or.inl ⟨(ro_a hb_3k (by decide) hb_3o hkx rfl), by decide⟩))) hI_121 (Or.inl (ro_o hkx (by decide)))) ex_127), (Or.inl ⟨Or.inl (rg_1k r_126 rc_0), q_136⟩)⟩ dX12_book_175
                · skip
                  exact eq_no (h_133) r_103 rc_0 (by decide)
              · skip
                have r_137 := (⟨(eq_rg (h_124) rc_1).1, (r_19).2⟩ : Rg 1 1 a0)
                refine g_iload_n C 3 dX12_book_154 rfl rfl ?_
                refine g_if_le C (tgt := 162) dX12_book_155 (by decide) (fun h_138 => ?_) (fun h_138 => ?_)
                · skip
                  have r_139 := le_l (h_138) r_106 rc_0
                  exact rg_no r_139 (by decide)
                · skip
                  refine g_iconst C (v := 1) dX12_book_158 (by decide) ?_
                  refine g_goto C (tgt := 163) dX12_book_159 (by decide) ?_
                  refine g_callVV C K (c_X12_stay W9 hLx hkx 1 (rg_w rc_1 (by decide) (by decide)) hU_122  ((ga_u (r := 0) W9 hLx hkx (ga_u W9 hLx hkx (ga_u W9 hLx hkx (ga_u W9 hLx hkx (ga_u W9 hLx hkx (ga_mv W9 hLx hkx ga_30 ex_95 hFI_96 (by decide)) hI_107 (Or.inr (Or.inl ⟨(ro_a hb_3k (by decide) hb_3o hkx rfl), by decide, by decide⟩))) hI_110 (Or.inr (Or.inl ⟨(ro_a hb_3k (by decide) hb_3o hkx rfl), by decide, by decide⟩))) hI_114 (Or.inr (Or.inl ⟨(ro_a hb_3k (by decide) hb_3o hkx rfl), by decide, by decide⟩))) hI_118 (Or.inr (Or.inl ⟨(ro_a hb_3k (by decide) hb_3o hkx rfl), by decide, by decide⟩))) hI_121 (Or.inl (ro_o hkx (by decide)))))) hLx hkx (by decide) rfl v_12_376 rfl ⟨rfl, rfl⟩ ⟨Nat.le_of_ble_eq_true rfl, Nat.le_of_ble_eq_true rfl⟩ (Nat.le_of_ble_eq_true rfl) ⟨Nat.le_of_ble_eq_true rfl, Nat.le_of_ble_eq_true rfl⟩ dX12_book_163 rfl (st := []) (fun I_141 J_142 h_143 => ?_)
                  obtain ⟨hUI_141, hFI_141, hGJ_142, ex_140⟩ := h_143
                  have hF_144 := fq_tr hF_123 hFI_141 (by decide)
                  have hG_145 := fq_tr hG_100 hGJ_142 (by decide)
                  refine g_iload_n C 0 dX12_book_166 rfl rfl ?_
                  refine g_if_ne C (tgt := 174) dX12_book_167 (by decide) (fun h_146 => ?_) (fun h_146 => ?_)
                  · skip
                    have n_147 : ¬ x_95 = 0 := h_146
                    refine g_iload_n C 3 dX12_book_174 rfl rfl ?_
                    have q_148 := (fq_at hFI_141 hLx hkx (by decide) (by decide) (kp_j hI_121 (by decide) (kp_k (κ := κ) hI_118 (by rw [hkx, hb_3k]; decide) (kp_k (κ := κ) hI_114 (by rw [hkx, hb_3k]; decide) (kp_k (κ := κ) hI_110 (by rw [hkx, hb_3k]; decide) (kp_k (κ := κ) hI_107 (by rw [hkx, hb_3k]; decide) (fq_at hFI_96 hLx hkx (by decide) (by decide) zq_32)))))))
                    have q_149 := (fq_at hFI_141 hLx hkx (by decide) (by decide) (kp_j hI_121 (by decide) (kp_k (κ := κ) hI_118 (by rw [hkx, hb_3k]; decide) (kp_k (κ := κ) hI_114 (by rw [hkx, hb_3k]; decide) (kp_k (κ := κ) hI_110 (by rw [hkx, hb_3k]; decide) (kp_k (κ := κ) hI_107 (by rw [hkx, hb_3k]; decide) (fq_at hFI_96 hLx hkx (by decide) (by decide) q_26)))))))
                    exact g_zret (ty := .int) (r := v_20) B K rfl (rfl) ⟨hUI_141, hF_144, hG_145, rg_all _, (Eq.trans q_148 hzf.symm), (hd_t (hd_u (r := 0) W9 hLx hkx (hd_u W9 hLx hkx (hd_u W9 hLx hkx (hd_u W9 hLx hkx (hd_u W9 hLx hkx (hd_t hd_29 ex_95) hI_107 (Or.inr (Or.inl ⟨(ro_a hb_3k (by decide) hb_3o hkx rfl), by decide⟩))) hI_110 (Or.inr (Or.inl ⟨(ro_a hb_3k (by decide) hb_3o hkx rfl), by decide⟩))) hI_114 (Or.inr (Or.inl ⟨(ro_a hb_3k (by decide) hb_3o hkx rfl), by decide⟩))) hI_118 (Or.inr (Or.inl ⟨(ro_a hb_3k (by decide) hb_3o hkx rfl), by decide⟩))) hI_121 (Or.inl (ro_o hkx (by decide)))) ex_140), (Or.inl ⟨Or.inr (rg_1k r_137 rc_1), q_149⟩)⟩ dX12_book_175
                  · skip
                    exact eq_no (h_146) r_103 rc_0 (by decide)
            · skip
              refine g_iload_n C 0 dX12_book_81 rfl rfl ?_
              refine g_if_ne C (tgt := 103) dX12_book_82 (by decide) (fun h_150 => ?_) (fun h_150 => ?_)
              · skip
                have n_151 : ¬ x_95 = 0 := h_150
                refine g_aload_n C 1 dX12_book_103 rfl rfl ?_
                refine g_getR C K hLx hkx f_12_76 hb_3 dX12_book_104 ?_
                refine g_iconst C (v := 0) dX12_book_107 (by decide) ?_
                refine g_iload_n C 0 dX12_book_108 rfl rfl ?_
                refine h_iast C K hb_3L hb_3k (0) (by decide) (by decide) (by rw [hb_3n]; decide) dX12_book_109 (fun I_152 hI_152 => ?_)
                have hU_153 := iw_put W9 hUI_96 hI_152 (ro_a hb_3k (by decide) hb_3o hkx rfl) (lo := (-2147483648)) (hi := 2147483647) (rfl) (rg_all _) rfl
                have hF_154 := fq_puta hF_99 hI_152 (ro_a hb_3k (by decide) hb_3o hkx rfl) (by decide) (by decide)
                refine g_aload_n C 1 dX12_book_110 rfl rfl ?_
                refine g_getR C K hLx hkx f_12_76 hb_3 dX12_book_111 ?_
                refine g_iconst C (v := 1) dX12_book_114 (by decide) ?_
                refine g_iload_n C 3 dX12_book_115 rfl rfl ?_
                refine h_iast C K hb_3L hb_3k (1) (by decide) (by decide) (by rw [hb_3n]; decide) dX12_book_116 (fun I_155 hI_155 => ?_)
                have hU_156 := iw_put W9 hU_153 hI_155 (ro_a hb_3k (by decide) hb_3o hkx rfl) (lo := (-2147483648)) (hi := 2147483647) (rfl) (rg_all _) rfl
                have hF_157 := fq_puta hF_154 hI_155 (ro_a hb_3k (by decide) hb_3o hkx rfl) (by decide) (by decide)
                refine g_aload_n C 1 dX12_book_117 rfl rfl ?_
                refine g_getR C K hLx hkx f_12_76 hb_3 dX12_book_118 ?_
                refine g_iconst C (v := 2) dX12_book_121 (by decide) ?_
                refine g_aload_n C 1 dX12_book_122 rfl rfl ?_
                refine g_getR C K hLx hkx f_12_13 hb_2 dX12_book_123 ?_
                refine g_bipush C (v := 72) dX12_book_126 (by decide) ?_
                obtain ⟨x_158, hx_158, rx_158⟩ := ex_any (z0 := I_155 b_2 (72))
                refine h_iald C K hb_2L hb_2k (v := x_158) (72) (by decide) (by decide) (by rw [hb_2n]; decide) hx_158 dX12_book_128 ?_
                refine h_iast C K hb_3L hb_3k (2) (by decide) (by decide) (by rw [hb_3n]; decide) dX12_book_129 (fun I_159 hI_159 => ?_)
                have hU_160 := iw_put W9 hU_156 hI_159 (ro_a hb_3k (by decide) hb_3o hkx rfl) (lo := (-2147483648)) (hi := 2147483647) (rfl) (rx_158) rfl
                have hF_161 := fq_puta hF_157 hI_159 (ro_a hb_3k (by decide) hb_3o hkx rfl) (by decide) (by decide)
                refine g_aload_n C 1 dX12_book_130 rfl rfl ?_
                refine g_getR C K hLx hkx f_12_76 hb_3 dX12_book_131 ?_
                refine g_iconst C (v := 3) dX12_book_134 (by decide) ?_
                refine g_aload_n C 1 dX12_book_135 rfl rfl ?_
                refine g_getR C K hLx hkx f_12_13 hb_2 dX12_book_136 ?_
                refine g_bipush C (v := 73) dX12_book_139 (by decide) ?_
                obtain ⟨x_162, hx_162, rx_162⟩ := ex_any (z0 := I_159 b_2 (73))
                refine h_iald C K hb_2L hb_2k (v := x_162) (73) (by decide) (by decide) (by rw [hb_2n]; decide) hx_162 dX12_book_141 ?_
                refine h_iast C K hb_3L hb_3k (3) (by decide) (by decide) (by rw [hb_3n]; decide) dX12_book_142 (fun I_163 hI_163 => ?_)
                have hU_164 := iw_put W9 hU_160 hI_163 (ro_a hb_3k (by decide) hb_3o hkx rfl) (lo := (-2147483648)) (hi := 2147483647) (rfl) (rx_162) rfl
                have hF_165 := fq_puta hF_161 hI_163 (ro_a hb_3k (by decide) hb_3o hkx rfl) (by decide) (by decide)
                refine g_aload_n C 1 dX12_book_143 rfl rfl ?_
                refine g_iconst C (v := 1) dX12_book_144 (by decide) ?_
                refine h_putZ C K hLx hkx f_12_373 p_12_45 (rg_bool (rg_w rc_1 (by decide) (by decide))) dX12_book_145 (fun I_166 hI_166 => ?_)
                have hU_167 := iw_put W9 hU_164 hI_166 (ro_o hkx (by decide)) (lo := 0) (hi := 1) (rfl) (rg_w rc_1 (by decide) (by decide)) rfl
                have hF_168 := fq_puto hF_165 hI_166 hkx (by decide) (by decide)
                refine g_aload_n C 1 dX12_book_148 rfl rfl ?_
                refine g_iload_n C 2 dX12_book_149 rfl rfl ?_
                refine g_iconst C (v := 1) dX12_book_150 (by decide) ?_
                refine g_icmp_ne C (tgt := 162) dX12_book_151 (by decide) (fun h_169 => ?_) (fun h_169 => ?_)
                · skip
                  have n_170 : ¬ a0 = 1 := h_169
                  have r_171 := ne_hi (hi := 0) n_170 r_19 rc_1 rfl (by decide)
                  refine g_iconst C (v := 0) dX12_book_162 (by decide) ?_
                  refine g_callVV C K (c_X12_stay W9 hLx hkx 0 (rg_w rc_0 (by decide) (by decide)) hU_167  ((ga_u (r := 0) W9 hLx hkx (ga_u W9 hLx hkx (ga_u W9 hLx hkx (ga_u W9 hLx hkx (ga_u W9 hLx hkx (ga_mv W9 hLx hkx ga_30 ex_95 hFI_96 (by decide)) hI_152 (Or.inr (Or.inl ⟨(ro_a hb_3k (by decide) hb_3o hkx rfl), by decide, by decide⟩))) hI_155 (Or.inr (Or.inl ⟨(ro_a hb_3k (by decide) hb_3o hkx rfl), by decide, by decide⟩))) hI_159 (Or.inr (Or.inl ⟨(ro_a hb_3k (by decide) hb_3o hkx rfl), by decide, by decide⟩))) hI_163 (Or.inr (Or.inl ⟨(ro_a hb_3k (by decide) hb_3o hkx rfl), by decide, by decide⟩))) hI_166 (Or.inl (ro_o hkx (by decide)))))) hLx hkx (by decide) rfl v_12_376 rfl ⟨rfl, rfl⟩ ⟨Nat.le_of_ble_eq_true rfl, Nat.le_of_ble_eq_true rfl⟩ (Nat.le_of_ble_eq_true rfl) ⟨Nat.le_of_ble_eq_true rfl, Nat.le_of_ble_eq_true rfl⟩ dX12_book_163 rfl (st := []) (fun I_173 J_174 h_175 => ?_)
                  obtain ⟨hUI_173, hFI_173, hGJ_174, ex_172⟩ := h_175
                  have hF_176 := fq_tr hF_168 hFI_173 (by decide)
                  have hG_177 := fq_tr hG_100 hGJ_174 (by decide)
                  refine g_iload_n C 0 dX12_book_166 rfl rfl ?_
                  refine g_if_ne C (tgt := 174) dX12_book_167 (by decide) (fun h_178 => ?_) (fun h_178 => ?_)
                  · skip
                    have n_179 : ¬ x_95 = 0 := h_178
                    refine g_iload_n C 3 dX12_book_174 rfl rfl ?_
                    have q_180 := (fq_at hFI_173 hLx hkx (by decide) (by decide) (kp_j hI_166 (by decide) (kp_k (κ := κ) hI_163 (by rw [hkx, hb_3k]; decide) (kp_k (κ := κ) hI_159 (by rw [hkx, hb_3k]; decide) (kp_k (κ := κ) hI_155 (by rw [hkx, hb_3k]; decide) (kp_k (κ := κ) hI_152 (by rw [hkx, hb_3k]; decide) (fq_at hFI_96 hLx hkx (by decide) (by decide) zq_32)))))))
                    have q_181 := (fq_at hFI_173 hLx hkx (by decide) (by decide) (kp_j hI_166 (by decide) (kp_k (κ := κ) hI_163 (by rw [hkx, hb_3k]; decide) (kp_k (κ := κ) hI_159 (by rw [hkx, hb_3k]; decide) (kp_k (κ := κ) hI_155 (by rw [hkx, hb_3k]; decide) (kp_k (κ := κ) hI_152 (by rw [hkx, hb_3k]; decide) (fq_at hFI_96 hLx hkx (by decide) (by decide) q_26)))))))
                    exact g_zret (ty := .int) (r := v_20) B K rfl (rfl) ⟨hUI_173, hF_176, hG_177, rg_all _, (Eq.trans q_180 hzf.symm), (hd_t (hd_u (r := 0) W9 hLx hkx (hd_u W9 hLx hkx (hd_u W9 hLx hkx (hd_u W9 hLx hkx (hd_u W9 hLx hkx (hd_t hd_29 ex_95) hI_152 (Or.inr (Or.inl ⟨(ro_a hb_3k (by decide) hb_3o hkx rfl), by decide⟩))) hI_155 (Or.inr (Or.inl ⟨(ro_a hb_3k (by decide) hb_3o hkx rfl), by decide⟩))) hI_159 (Or.inr (Or.inl ⟨(ro_a hb_3k (by decide) hb_3o hkx rfl), by decide⟩))) hI_163 (Or.inr (Or.inl ⟨(ro_a hb_3k (by decide) hb_3o hkx rfl), by decide⟩))) hI_166 (Or.inl (ro_o hkx (by decide)))) ex_172), (Or.inl ⟨Or.inl (rg_1k r_171 rc_0), q_181⟩)⟩ dX12_book_175
                  · skip
                    exact eq_no (h_178) r_103 rc_0 (by decide)
                · skip
                  have r_182 := (⟨(eq_rg (h_169) rc_1).1, (r_19).2⟩ : Rg 1 1 a0)
                  refine g_iload_n C 3 dX12_book_154 rfl rfl ?_
                  refine g_if_le C (tgt := 162) dX12_book_155 (by decide) (fun h_183 => ?_) (fun h_183 => ?_)
                  · skip
                    have r_184 := le_l (h_183) r_91 rc_0
                    refine g_iconst C (v := 0) dX12_book_162 (by decide) ?_
                    refine g_callVV C K (c_X12_stay W9 hLx hkx 0 (rg_w rc_0 (by decide) (by decide)) hU_167  ((ga_u (r := 0) W9 hLx hkx (ga_u W9 hLx hkx (ga_u W9 hLx hkx (ga_u W9 hLx hkx (ga_u W9 hLx hkx (ga_mv W9 hLx hkx ga_30 ex_95 hFI_96 (by decide)) hI_152 (Or.inr (Or.inl ⟨(ro_a hb_3k (by decide) hb_3o hkx rfl), by decide, by decide⟩))) hI_155 (Or.inr (Or.inl ⟨(ro_a hb_3k (by decide) hb_3o hkx rfl), by decide, by decide⟩))) hI_159 (Or.inr (Or.inl ⟨(ro_a hb_3k (by decide) hb_3o hkx rfl), by decide, by decide⟩))) hI_163 (Or.inr (Or.inl ⟨(ro_a hb_3k (by decide) hb_3o hkx rfl), by decide, by decide⟩))) hI_166 (Or.inl (ro_o hkx (by decide)))))) hLx hkx (by decide) rfl v_12_376 rfl ⟨rfl, rfl⟩ ⟨Nat.le_of_ble_eq_true rfl, Nat.le_of_ble_eq_true rfl⟩ (Nat.le_of_ble_eq_true rfl) ⟨Nat.le_of_ble_eq_true rfl, Nat.le_of_ble_eq_true rfl⟩ dX12_book_163 rfl (st := []) (fun I_186 J_187 h_188 => ?_)
                    obtain ⟨hUI_186, hFI_186, hGJ_187, ex_185⟩ := h_188
                    have hF_189 := fq_tr hF_168 hFI_186 (by decide)
                    have hG_190 := fq_tr hG_100 hGJ_187 (by decide)
                    refine g_iload_n C 0 dX12_book_166 rfl rfl ?_
                    refine g_if_ne C (tgt := 174) dX12_book_167 (by decide) (fun h_191 => ?_) (fun h_191 => ?_)
                    · skip
                      have n_192 : ¬ x_95 = 0 := h_191
                      refine g_iload_n C 3 dX12_book_174 rfl rfl ?_
                      have q_193 := (fq_at hFI_186 hLx hkx (by decide) (by decide) (kp_j hI_166 (by decide) (kp_k (κ := κ) hI_163 (by rw [hkx, hb_3k]; decide) (kp_k (κ := κ) hI_159 (by rw [hkx, hb_3k]; decide) (kp_k (κ := κ) hI_155 (by rw [hkx, hb_3k]; decide) (kp_k (κ := κ) hI_152 (by rw [hkx, hb_3k]; decide) (fq_at hFI_96 hLx hkx (by decide) (by decide) zq_32)))))))
                      have q_194 := (fq_at hFI_186 hLx hkx (by decide) (by decide) (kp_j hI_166 (by decide) (kp_k (κ := κ) hI_163 (by rw [hkx, hb_3k]; decide) (kp_k (κ := κ) hI_159 (by rw [hkx, hb_3k]; decide) (kp_k (κ := κ) hI_155 (by rw [hkx, hb_3k]; decide) (kp_k (κ := κ) hI_152 (by rw [hkx, hb_3k]; decide) (fq_at hFI_96 hLx hkx (by decide) (by decide) q_26)))))))
                      exact g_zret (ty := .int) (r := v_20) B K rfl (rfl) ⟨hUI_186, hF_189, hG_190, rg_all _, (Eq.trans q_193 hzf.symm), (hd_t (hd_u (r := 0) W9 hLx hkx (hd_u W9 hLx hkx (hd_u W9 hLx hkx (hd_u W9 hLx hkx (hd_u W9 hLx hkx (hd_t hd_29 ex_95) hI_152 (Or.inr (Or.inl ⟨(ro_a hb_3k (by decide) hb_3o hkx rfl), by decide⟩))) hI_155 (Or.inr (Or.inl ⟨(ro_a hb_3k (by decide) hb_3o hkx rfl), by decide⟩))) hI_159 (Or.inr (Or.inl ⟨(ro_a hb_3k (by decide) hb_3o hkx rfl), by decide⟩))) hI_163 (Or.inr (Or.inl ⟨(ro_a hb_3k (by decide) hb_3o hkx rfl), by decide⟩))) hI_166 (Or.inl (ro_o hkx (by decide)))) ex_185), (Or.inl ⟨Or.inr (rg_1k r_182 rc_1), q_194⟩)⟩ dX12_book_175
                    · skip
                      exact eq_no (h_191) r_103 rc_0 (by decide)
                  · skip
                    have r_195 := lt_r (lo := 1) (nle h_183) rc_0 r_91 (by decide)
                    refine g_iconst C (v := 1) dX12_book_158 (by decide) ?_
                    refine g_goto C (tgt := 163) dX12_book_159 (by decide) ?_
                    refine g_callVV C K (c_X12_stay W9 hLx hkx 1 (rg_w rc_1 (by decide) (by decide)) hU_167  ((ga_u (r := 0) W9 hLx hkx (ga_u W9 hLx hkx (ga_u W9 hLx hkx (ga_u W9 hLx hkx (ga_u W9 hLx hkx (ga_mv W9 hLx hkx ga_30 ex_95 hFI_96 (by decide)) hI_152 (Or.inr (Or.inl ⟨(ro_a hb_3k (by decide) hb_3o hkx rfl), by decide, by decide⟩))) hI_155 (Or.inr (Or.inl ⟨(ro_a hb_3k (by decide) hb_3o hkx rfl), by decide, by decide⟩))) hI_159 (Or.inr (Or.inl ⟨(ro_a hb_3k (by decide) hb_3o hkx rfl), by decide, by decide⟩))) hI_163 (Or.inr (Or.inl ⟨(ro_a hb_3k (by decide) hb_3o hkx rfl), by decide, by decide⟩))) hI_166 (Or.inl (ro_o hkx (by decide)))))) hLx hkx (by decide) rfl v_12_376 rfl ⟨rfl, rfl⟩ ⟨Nat.le_of_ble_eq_true rfl, Nat.le_of_ble_eq_true rfl⟩ (Nat.le_of_ble_eq_true rfl) ⟨Nat.le_of_ble_eq_true rfl, Nat.le_of_ble_eq_true rfl⟩ dX12_book_163 rfl (st := []) (fun I_197 J_198 h_199 => ?_)
                    obtain ⟨hUI_197, hFI_197, hGJ_198, ex_196⟩ := h_199
                    have hF_200 := fq_tr hF_168 hFI_197 (by decide)
                    have hG_201 := fq_tr hG_100 hGJ_198 (by decide)
                    refine g_iload_n C 0 dX12_book_166 rfl rfl ?_
                    refine g_if_ne C (tgt := 174) dX12_book_167 (by decide) (fun h_202 => ?_) (fun h_202 => ?_)
                    · skip
                      have n_203 : ¬ x_95 = 0 := h_202
                      refine g_iload_n C 3 dX12_book_174 rfl rfl ?_
                      have q_204 := (fq_at hFI_197 hLx hkx (by decide) (by decide) (kp_j hI_166 (by decide) (kp_k (κ := κ) hI_163 (by rw [hkx, hb_3k]; decide) (kp_k (κ := κ) hI_159 (by rw [hkx, hb_3k]; decide) (kp_k (κ := κ) hI_155 (by rw [hkx, hb_3k]; decide) (kp_k (κ := κ) hI_152 (by rw [hkx, hb_3k]; decide) (fq_at hFI_96 hLx hkx (by decide) (by decide) zq_32)))))))
                      have q_205 := (fq_at hFI_197 hLx hkx (by decide) (by decide) (kp_j hI_166 (by decide) (kp_k (κ := κ) hI_163 (by rw [hkx, hb_3k]; decide) (kp_k (κ := κ) hI_159 (by rw [hkx, hb_3k]; decide) (kp_k (κ := κ) hI_155 (by rw [hkx, hb_3k]; decide) (kp_k (κ := κ) hI_152 (by rw [hkx, hb_3k]; decide) (fq_at hFI_96 hLx hkx (by decide) (by decide) q_26)))))))
                      exact g_zret (ty := .int) (r := v_20) B K rfl (rfl) ⟨hUI_197, hF_200, hG_201, rg_all _, (Eq.trans q_204 hzf.symm), (hd_t (hd_u (r := 0) W9 hLx hkx (hd_u W9 hLx hkx (hd_u W9 hLx hkx (hd_u W9 hLx hkx (hd_u W9 hLx hkx (hd_t hd_29 ex_95) hI_152 (Or.inr (Or.inl ⟨(ro_a hb_3k (by decide) hb_3o hkx rfl), by decide⟩))) hI_155 (Or.inr (Or.inl ⟨(ro_a hb_3k (by decide) hb_3o hkx rfl), by decide⟩))) hI_159 (Or.inr (Or.inl ⟨(ro_a hb_3k (by decide) hb_3o hkx rfl), by decide⟩))) hI_163 (Or.inr (Or.inl ⟨(ro_a hb_3k (by decide) hb_3o hkx rfl), by decide⟩))) hI_166 (Or.inl (ro_o hkx (by decide)))) ex_196), (Or.inl ⟨Or.inr (rg_1k r_182 rc_1), q_205⟩)⟩ dX12_book_175
                    · skip
                      exact eq_no (h_202) r_103 rc_0 (by decide)
              · skip
                exact eq_no (h_150) r_103 rc_0 (by decide)
          · skip
            have r_206 := (⟨(rx_95).1, (eq_rg (h_101) rc_0).2⟩ : Rg 0 0 x_95)
            obtain ⟨x_207, hx_207, rx_207, tx_207⟩ := ex_add (y := 1) 1 40 r_91 rc_1 (by decide) (by decide) (by decide) (by decide)
            refine g_iinc C dX12_book_97 (k := 3) (v := x_207) rfl hx_207 (by decide) (lo2 := [(2, .int x_207), (3, .int x_95), (0, .ref x), (1, .int a0)]) rfl ?_
            refine g_goto C (tgt := 73) dX12_book_100 (by decide) ?_
            refine g_lo (is := [2, 3, 0, 1]) (lo2 := [(0, .ref x), (1, .int a0), (2, .int x_207), (3, .int x_95)]) rfl ?_
            exact ih_73 I_96 J_97 hUI_96 hF_99 hG_100 (r_19) x_207 (rg_w rx_207 (by decide) (by decide)) x_95 (r_206) zf v_23 (rg_w r_92 (by decide) (by decide)) v_24 (rv_24) (fq_at hFI_96 hLx hkx (by decide) (by decide) zq_32) (fq_at hFI_96 hLx hkx (by decide) (by decide) q_26) (fq_at hFI_96 hLx hkx (by decide) (by decide) q_27) (fq_at hFI_96 hLx hkx (by decide) (by decide) q_28) (hd_t hd_29 ex_95) (ga_mv W9 hLx hkx ga_30 ex_95 hFI_96 (by decide)) (by simp only [evqx, hs_6, ezqx, hs_7, euqx, hs_8, emqx, hs_10, enqx, hs_13, h_39, (nle h_39), (eq_true h_93), hx_94, (eq_true h_101), hx_207, if_true, if_false, mqM_tp, mqM_size, mqM_limit, mqM_to, mqM_frm, mqM_kind, mqM_number, mqM_sign, mqM_word, MT_.w_tp, MT_.w_size, MT_.w_limit, MT_.w_to, MT_.w_frm, MT_.w_kind, MT_.w_number, MT_.w_sign, MT_.w_word, nqM_rd, nqM_rn, nqM_taped, nqM_mfault, nqM_mplace, nqM_told, nqM_hl, nqM_hd, NR_.w_rd, NR_.w_rn, NR_.w_taped, NR_.w_mfault, NR_.w_mplace, NR_.w_told, NR_.w_hl, NR_.w_hd, vqM_nv, NV_.w_nv, zqM_nw, NW_.w_nw, uqM_blm, YT_.w_blm]) (fq_at hFI_96 hLx hkx (by decide) (by decide) zq_32) (ms_1 hm_33 (ti_k tx_207 rc_1) (by decide))
  have l_30 : ∀ (n_30 : Nat) (I_208 : Nat → Nat → Int32) (J_209 : Nat → Nat → Int64) (hU_210 : Iw L κ R ow I_208) (hF_211 : Fq L κ ow [1200, 1202, 1203, 1204, 1205, 1206, 1207, 1208, 1209, 1210, 1211, 1213, 1223, 1244, 1245, 83400, 83700, 83800, 86200, 86300] I I_208) (hG_212 : Fq L κ ow [1212] J J_209) (r_213 : Rg 0 1 a0) (v_214 : Int32) (rv_214 : Rg 0 40 v_214) (q_215 : I_208 x 2 = 0) (q_216 : I_208 x 44 = v_214) (hd_217 : Hd_ R x I I_208) (hq_218 : mBkl (NVq I_208 J_209 x b_5) (NWq I_208 J_209 x b_2) (YTq I_208 J_209 x) (MTq I_208 J_209 x b_9) (NRq I_208 J_209 x b_11 b_12) = mBookF a0 s_6 s_7 s_8 s_10 s_13) (hm_219 : 40 < (v_214 : Int32).toInt + (n_30 : Int)), WG p l e { frames := 6, cells := 0, slots := 0, locals := 143 } s m ([.ref x, .int a0] : List Value).toArray below meth c 4 0 0 (MQ below (Qi_ D cy L κ ln R (fun r I2 J2 => Iw L κ R ow I2 ∧ Fq L κ ow [1200, 1202, 1203, 1204, 1205, 1206, 1207, 1208, 1209, 1210, 1211, 1213, 1223, 1244, 1245, 83400, 83700, 83800, 86200, 86300] I I2 ∧ Fq L κ ow [1212] J J2 ∧ Rg (-2147483648) 2147483647 r ∧ (I2 x 10 = mBookF a0 (NVf R I J x) (NWf R I J x) (YTf R I J x) (MTf R I J x) (NRf R I J x)) ∧ (Hd_ R x I I2) ∧ (Tb_ (I x 2) (I2 x 2) a0))) ([.ref x, .int a0] : List Value).toArray s 0 0 (Al_ L)) D cy (Al_ L) s.heap L κ ln R I_208 J_209 30 [(0, .ref x), (1, .int a0)] [] := by
    intro n_30
    induction n_30 with
    | zero =>
      intro I_208 J_209 hU_210 hF_211 hG_212 r_213 v_214 rv_214 q_215 q_216 hd_217 hq_218 hm_219
      exact ms_0 rv_214 hm_219
    | succ n_30 ih_30 =>
      intro I_208 J_209 hU_210 hF_211 hG_212 r_213 v_214 rv_214 q_215 q_216 hd_217 hq_218 hm_219
      obtain ⟨s_220, hs_220⟩ : ∃ z, NVq I_208 J_209 x b_5 = z := ⟨_, rfl⟩
      obtain ⟨s_221, hs_221⟩ : ∃ z, NWq I_208 J_209 x b_2 = z := ⟨_, rfl⟩
      obtain ⟨s_222, hs_222⟩ : ∃ z, YTq I_208 J_209 x = z := ⟨_, rfl⟩
      obtain ⟨s_223, hs_223⟩ : ∃ z, MTq I_208 J_209 x b_9 = z := ⟨_, rfl⟩
      obtain ⟨s_224, hs_224⟩ : ∃ z, NRq I_208 J_209 x b_11 b_12 = z := ⟨_, rfl⟩
      simp only [hs_220, hs_221, hs_222, hs_223, hs_224] at hq_218
      have hQ_225 := hq_218.symm
      have f_227 : s_222.blm = v_214 := (congrArg YT_.blm hs_222).symm.trans q_216
      have u_226 := mBkl_eq (v := s_220) (z := s_221) (y := s_222) (m := s_223) (n := s_224) (eq_rg ((congrArg YT_.blm hs_222).symm.trans q_216) (rg_w rv_214 (by decide) (by decide)))
      refine g_aload_n C 0 dX12_book_30 rfl rfl ?_
      obtain ⟨x_228, hx_228, rx_228⟩ := ex_getw (I := I_208) (a := x) (j := 7) (lo := 0) (hi := 4) hU_210.1 hLx (ro_o hkx (by decide)) rfl
      have f_229 : s_223.kind = x_228 := (congrArg MT_.kind hs_223).symm.trans hx_228
      refine g_getI C K hLx hkx f_12_104 (v := x_228) hx_228 dX12_book_31 ?_
      refine g_if_eq C (tgt := 65) dX12_book_34 (by decide) (fun h_230 => ?_) (fun h_230 => ?_)
      · skip
        have r_231 := (⟨(rx_228).1, (eq_rg (h_230) rc_0).2⟩ : Rg 0 0 x_228)
        obtain ⟨x_232, hx_232, rx_232⟩ := ex_getw (I := I_208) (a := x) (j := 10) (lo := (-2147483648)) (hi := 2147483647) hU_210.1 hLx (ro_o hkx (by decide)) rfl
        have f_233 : s_224.mfault = x_232 := (congrArg NR_.mfault hs_224).symm.trans hx_232
        have mf_234 : mBookF a0 (NVf R I J x) (NWf R I J x) (YTf R I J x) (MTf R I J x) (NRf R I J x) = x_232 := by (try simp only [f_227, hx_228, f_229, (eq_true h_230), hx_232, f_233, if_true, if_false, mqM_tp, mqM_size, mqM_limit, mqM_to, mqM_frm, mqM_kind, mqM_number, mqM_sign, mqM_word, MT_.w_tp, MT_.w_size, MT_.w_limit, MT_.w_to, MT_.w_frm, MT_.w_kind, MT_.w_number, MT_.w_sign, MT_.w_word, nqM_rd, nqM_rn, nqM_taped, nqM_mfault, nqM_mplace, nqM_told, nqM_hl, nqM_hd, NR_.w_rd, NR_.w_rn, NR_.w_taped, NR_.w_mfault, NR_.w_mplace, NR_.w_told, NR_.w_hl, NR_.w_hd, vqM_nv, NV_.w_nv, zqM_nw, NW_.w_nw, uqM_blm, YT_.w_blm] at hQ_225); (try simp only [f_227, hx_228, f_229, (eq_true h_230), hx_232, f_233, if_true, if_false, mqM_tp, mqM_size, mqM_limit, mqM_to, mqM_frm, mqM_kind, mqM_number, mqM_sign, mqM_word, MT_.w_tp, MT_.w_size, MT_.w_limit, MT_.w_to, MT_.w_frm, MT_.w_kind, MT_.w_number, MT_.w_sign, MT_.w_word, nqM_rd, nqM_rn, nqM_taped, nqM_mfault, nqM_mplace, nqM_told, nqM_hl, nqM_hd, NR_.w_rd, NR_.w_rn, NR_.w_taped, NR_.w_mfault, NR_.w_mplace, NR_.w_told, NR_.w_hl, NR_.w_hd, vqM_nv, NV_.w_nv, zqM_nw, NW_.w_nw, uqM_blm, YT_.w_blm] at u_226); simp only [evqx, hs_220, hs_6, ezqx, hs_221, hs_7, euqx, hs_222, hs_8, emqx, hs_223, hs_10, enqx, hs_224, hs_13, hQ_225, f_227, u_226, hx_228, f_229, (eq_true h_230), hx_232, f_233, if_true, if_false, mqM_tp, mqM_size, mqM_limit, mqM_to, mqM_frm, mqM_kind, mqM_number, mqM_sign, mqM_word, MT_.w_tp, MT_.w_size, MT_.w_limit, MT_.w_to, MT_.w_frm, MT_.w_kind, MT_.w_number, MT_.w_sign, MT_.w_word, nqM_rd, nqM_rn, nqM_taped, nqM_mfault, nqM_mplace, nqM_told, nqM_hl, nqM_hd, NR_.w_rd, NR_.w_rn, NR_.w_taped, NR_.w_mfault, NR_.w_mplace, NR_.w_told, NR_.w_hl, NR_.w_hd, vqM_nv, NV_.w_nv, zqM_nw, NW_.w_nw, uqM_blm, YT_.w_blm]
        refine g_aload_n C 0 dX12_book_65 rfl rfl ?_
        refine g_callVV C K (c_X12_layAside W9 hLx hkx   hU_210) hLx hkx (by decide) rfl v_12_329 rfl ⟨rfl, rfl⟩ ⟨Nat.le_of_ble_eq_true rfl, Nat.le_of_ble_eq_true rfl⟩ (Nat.le_of_ble_eq_true rfl) ⟨Nat.le_of_ble_eq_true rfl, Nat.le_of_ble_eq_true rfl⟩ dX12_book_66 rfl (st := []) (fun I_236 J_237 h_238 => ?_)
        obtain ⟨hUI_236, hFI_236, hGJ_237, ex_235⟩ := h_238
        have hF_239 := fq_tr hF_211 hFI_236 (by decide)
        have hG_240 := fq_tr hG_212 hGJ_237 (by decide)
        refine g_iconst C (v := 0) dX12_book_69 (by decide) ?_
        refine g_istore_n C dX12_book_70 rfl (by decide) (lo2 := [(2, .int 0), (0, .ref x), (1, .int a0)]) rfl ?_
        refine g_iconst C (v := 0) dX12_book_71 (by decide) ?_
        refine g_istore_n C dX12_book_72 rfl (by decide) (lo2 := [(3, .int 0), (2, .int 0), (0, .ref x), (1, .int a0)]) rfl ?_
        refine g_lo (is := [2, 3, 1, 0]) (lo2 := [(0, .ref x), (1, .int a0), (2, .int 0), (3, .int 0)]) rfl ?_
        exact l_73 41 I_236 J_237 hUI_236 hF_239 hG_240 (r_213) 0 (rg_w rc_0 (by decide) (by decide)) 0 (rc_0) x_232 v_214 (rv_214) x_228 (r_231) (fq_at hFI_236 hLx hkx (by decide) (by decide) hx_232) (fq_at hFI_236 hLx hkx (by decide) (by decide) q_215) (fq_at hFI_236 hLx hkx (by decide) (by decide) q_216) (fq_at hFI_236 hLx hkx (by decide) (by decide) hx_228) (hd_t hd_217 ex_235.1) ex_235.2 (by (try simp only [f_227, hx_228, f_229, (eq_true h_230), hx_232, f_233, if_true, if_false, mqM_tp, mqM_size, mqM_limit, mqM_to, mqM_frm, mqM_kind, mqM_number, mqM_sign, mqM_word, MT_.w_tp, MT_.w_size, MT_.w_limit, MT_.w_to, MT_.w_frm, MT_.w_kind, MT_.w_number, MT_.w_sign, MT_.w_word, nqM_rd, nqM_rn, nqM_taped, nqM_mfault, nqM_mplace, nqM_told, nqM_hl, nqM_hd, NR_.w_rd, NR_.w_rn, NR_.w_taped, NR_.w_mfault, NR_.w_mplace, NR_.w_told, NR_.w_hl, NR_.w_hd, vqM_nv, NV_.w_nv, zqM_nw, NW_.w_nw, uqM_blm, YT_.w_blm] at hQ_225); (try simp only [f_227, hx_228, f_229, (eq_true h_230), hx_232, f_233, if_true, if_false, mqM_tp, mqM_size, mqM_limit, mqM_to, mqM_frm, mqM_kind, mqM_number, mqM_sign, mqM_word, MT_.w_tp, MT_.w_size, MT_.w_limit, MT_.w_to, MT_.w_frm, MT_.w_kind, MT_.w_number, MT_.w_sign, MT_.w_word, nqM_rd, nqM_rn, nqM_taped, nqM_mfault, nqM_mplace, nqM_told, nqM_hl, nqM_hd, NR_.w_rd, NR_.w_rn, NR_.w_taped, NR_.w_mfault, NR_.w_mplace, NR_.w_told, NR_.w_hl, NR_.w_hd, vqM_nv, NV_.w_nv, zqM_nw, NW_.w_nw, uqM_blm, YT_.w_blm] at u_226); simp only [evqx, hs_6, ezqx, hs_7, euqx, hs_8, emqx, hs_10, enqx, hs_13, hQ_225, f_227, u_226, hx_228, f_229, (eq_true h_230), hx_232, f_233, if_true, if_false, mqM_tp, mqM_size, mqM_limit, mqM_to, mqM_frm, mqM_kind, mqM_number, mqM_sign, mqM_word, MT_.w_tp, MT_.w_size, MT_.w_limit, MT_.w_to, MT_.w_frm, MT_.w_kind, MT_.w_number, MT_.w_sign, MT_.w_word, nqM_rd, nqM_rn, nqM_taped, nqM_mfault, nqM_mplace, nqM_told, nqM_hl, nqM_hd, NR_.w_rd, NR_.w_rn, NR_.w_taped, NR_.w_mfault, NR_.w_mplace, NR_.w_told, NR_.w_hl, NR_.w_hd, vqM_nv, NV_.w_nv, zqM_nw, NW_.w_nw, uqM_blm, YT_.w_blm]) (Eq.trans (fq_at hFI_236 hLx hkx (by decide) (by decide) hx_232) (mf_234.symm.trans hzf)) (ms_s (a := 0) (b := 40) (N := 41) (rg_w rc_0 (by decide) (by decide)) (by decide))
      · skip
        have n_241 : ¬ x_228 = 0 := h_230
        have r_242 := ne_lo (lo := 1) n_241 rx_228 rc_0 rfl (by decide)
        refine g_aload_n C 0 dX12_book_37 rfl rfl ?_
        refine g_callVI C K (c_X12_readBookLine W9 hLx hkx   hU_210) hLx hkx (by decide) rfl v_12_367 rfl ⟨rfl, rfl⟩ ⟨Nat.le_of_ble_eq_true rfl, Nat.le_of_ble_eq_true rfl⟩ (Nat.le_of_ble_eq_true rfl) ⟨Nat.le_of_ble_eq_true rfl, Nat.le_of_ble_eq_true rfl⟩ dX12_book_38 rfl (st := []) (fun x_243 I_244 J_245 h_246 => ?_)
        obtain ⟨hUI_244, hFI_244, hGJ_245, rx_243, fx_243, ex_243⟩ := h_246
        have hF_247 := fq_tr hF_211 hFI_244 (by decide)
        have hG_248 := fq_tr hG_212 hGJ_245 (by decide)
        obtain ⟨s_250, hs_250⟩ : ∃ z, MTq I_244 J_245 x b_9 = z := ⟨_, rfl⟩
        obtain ⟨s_251, hs_251⟩ : ∃ z, NRq I_244 J_245 x b_11 b_12 = z := ⟨_, rfl⟩
        have c_249 : mBkLine (s_220) (s_221) (s_222) (s_223) (s_224) = (x_243, s_250, s_251) := by have q := fx_243; simp only [evqx, ezqx, euqx, emqx, enqx, hs_220, hs_221, hs_222, hs_223, hs_224, hs_250, hs_251] at q; exact q.symm
        have hs_252 : NVq I_244 J_245 x b_5 = s_220 := (vq_fq wvqx hFI_244 hGJ_245 (by decide) (by decide)).trans hs_220
        have hs_253 : NWq I_244 J_245 x b_2 = s_221 := (zq_fq wzqx hFI_244 hGJ_245 (by decide) (by decide)).trans hs_221
        have hs_254 : YTq I_244 J_245 x = s_222 := (uq_fq wuqx hFI_244 hGJ_245 (by decide) (by decide)).trans hs_222
        have q_255 := (fq_at hFI_244 hLx hkx (by decide) (by decide) q_216)
        refine g_if_ne C (tgt := 52) dX12_book_41 (by decide) (fun h_256 => ?_) (fun h_256 => ?_)
        · skip
          have n_257 : ¬ x_243 = 0 := h_256
          have r_258 := ne_lo (lo := 1) n_257 rx_243 rc_0 rfl (by decide)
          have r_259 := rg_i rv_214 (eq_rg q_255.symm ((ex_243.2) n_257)) (lo := 0) (hi := 39) (by decide) (by decide)
          refine g_aload_n C 0 dX12_book_52 rfl rfl ?_
          refine g_dup C dX12_book_53 rfl ?_
          refine g_getI C K hLx hkx f_12_361 (v := v_214) (fq_at hFI_244 hLx hkx (by decide) (by decide) q_216) dX12_book_54 ?_
          refine g_iconst C (v := 1) dX12_book_57 (by decide) ?_
          obtain ⟨x_260, hx_260, rx_260, tx_260⟩ := ex_add 1 40 r_259 rc_1 (by decide) (by decide) (by decide) (by decide)
          refine g_iadd C (v := x_260) dX12_book_58 hx_260 ?_
          refine h_putI C K hLx hkx f_12_361 p_12_44 dX12_book_59 (fun I_261 hI_261 => ?_)
          have hU_262 := iw_ln W9 hUI_244 (uw_put hUI_244.1 hI_261 (ro_o hkx (by decide)) (lo := 0) (hi := 40) (rfl) (rg_w rx_260 (by decide) (by decide))) hLx hkx hb_4 hI_261 (fun j hj => by by_cases q : (j : Int) < (I_244 x 44).toInt; exact Or.inl q; refine Or.inr ?_; have q0 := ex_243.1 (rg_nz r_258 (by decide)) _ hb_4; have q1 := (ti_k tx_260 rc_1); have q2 := (fq_at hFI_244 hLx hkx (by decide) (by decide) q_216); rw [q2] at q q0; have q3 := ix_n (r_259) (by decide); rw [show j = v_214.toNatClampNeg from by omega]; exact q0)
          have hF_263 := fq_puto hF_247 hI_261 hkx (by decide) (by decide)
          have hs_264 : NVq I_261 J_245 x b_5 = s_220 := by rw [hI_261]; exact (vq_oI wvqx (ro_o hkx (by decide)) (by decide)).trans hs_252
          have hs_265 : NWq I_261 J_245 x b_2 = s_221 := by rw [hI_261]; exact (zq_oI wzqx (ro_o hkx (by decide)) (by decide)).trans hs_253
          have hs_266 : YTq I_261 J_245 x = (YT_.w_blm s_222 (x_260)) := by rw [hI_261]; exact ((uq_blm wuqx).trans (congrArg (fun z : YT_ => YT_.w_blm z (x_260)) hs_254)).trans rfl
          have hs_267 : MTq I_261 J_245 x b_9 = s_250 := by rw [hI_261]; exact (mq_uIt wmqx (by decide)).trans hs_250
          have hs_268 : NRq I_261 J_245 x b_11 b_12 = s_251 := by rw [hI_261]; exact (nq_uIt wnqx (by decide)).trans hs_251
          refine g_goto C (tgt := 30) dX12_book_62 (by decide) ?_
          refine g_lo (is := [0, 1]) (lo2 := [(0, .ref x), (1, .int a0)]) rfl ?_
          exact ih_30 I_261 J_245 hU_262 hF_263 hG_248 (r_213) x_260 (rg_w rx_260 (by decide) (by decide)) (kp_j hI_261 (by decide) (fq_at hFI_244 hLx hkx (by decide) (by decide) q_215)) (kp_s hI_261) (hd_u (r := 0) W9 hLx hkx (hd_fq W9 hLx hkx hd_217 hFI_244 (by decide)) hI_261 (Or.inl (ro_o hkx (by decide)))) (by (try simp only [f_227, hx_228, f_229, h_230, c_249, h_256, hx_260, if_true, if_false, mqM_tp, mqM_size, mqM_limit, mqM_to, mqM_frm, mqM_kind, mqM_number, mqM_sign, mqM_word, MT_.w_tp, MT_.w_size, MT_.w_limit, MT_.w_to, MT_.w_frm, MT_.w_kind, MT_.w_number, MT_.w_sign, MT_.w_word, nqM_rd, nqM_rn, nqM_taped, nqM_mfault, nqM_mplace, nqM_told, nqM_hl, nqM_hd, NR_.w_rd, NR_.w_rn, NR_.w_taped, NR_.w_mfault, NR_.w_mplace, NR_.w_told, NR_.w_hl, NR_.w_hd, vqM_nv, NV_.w_nv, zqM_nw, NW_.w_nw, uqM_blm, YT_.w_blm] at hQ_225); (try simp only [f_227, hx_228, f_229, h_230, c_249, h_256, hx_260, if_true, if_false, mqM_tp, mqM_size, mqM_limit, mqM_to, mqM_frm, mqM_kind, mqM_number, mqM_sign, mqM_word, MT_.w_tp, MT_.w_size, MT_.w_limit, MT_.w_to, MT_.w_frm, MT_.w_kind, MT_.w_number, MT_.w_sign, MT_.w_word, nqM_rd, nqM_rn, nqM_taped, nqM_mfault, nqM_mplace, nqM_told, nqM_hl, nqM_hd, NR_.w_rd, NR_.w_rn, NR_.w_taped, NR_.w_mfault, NR_.w_mplace, NR_.w_told, NR_.w_hl, NR_.w_hd, vqM_nv, NV_.w_nv, zqM_nw, NW_.w_nw, uqM_blm, YT_.w_blm] at u_226); simp only [evqx, hs_264, hs_6, ezqx, hs_265, hs_7, euqx, hs_266, hs_8, emqx, hs_267, hs_10, enqx, hs_268, hs_13, hQ_225, f_227, u_226, hx_228, f_229, h_230, c_249, h_256, hx_260, if_true, if_false, mqM_tp, mqM_size, mqM_limit, mqM_to, mqM_frm, mqM_kind, mqM_number, mqM_sign, mqM_word, MT_.w_tp, MT_.w_size, MT_.w_limit, MT_.w_to, MT_.w_frm, MT_.w_kind, MT_.w_number, MT_.w_sign, MT_.w_word, nqM_rd, nqM_rn, nqM_taped, nqM_mfault, nqM_mplace, nqM_told, nqM_hl, nqM_hd, NR_.w_rd, NR_.w_rn, NR_.w_taped, NR_.w_mfault, NR_.w_mplace, NR_.w_told, NR_.w_hl, NR_.w_hd, vqM_nv, NV_.w_nv, zqM_nw, NW_.w_nw, uqM_blm, YT_.w_blm]) (ms_1 hm_219 (ti_k tx_260 rc_1) (by decide))
        · skip
          have r_269 := (⟨(rx_243).1, (eq_rg (h_256) rc_0).2⟩ : Rg 0 0 x_243)
          refine g_bipush C (v := (-2)) dX12_book_44 (by decide) ?_
          refine g_aload_n C 0 dX12_book_46 rfl rfl ?_
          obtain ⟨x_270, hx_270, rx_270⟩ := ex_getw (I := I_244) (a := x) (j := 11) (lo := (-2147483648)) (hi := 2147483647) hUI_244.1 hLx (ro_o hkx (by decide)) rfl
          have f_271 : s_251.mplace = x_270 := (congrArg NR_.mplace hs_251).symm.trans hx_270
          refine g_getI C K hLx hkx f_12_143 (v := x_270) hx_270 dX12_book_47 ?_
          obtain ⟨x_272, hx_272, rx_272⟩ := ex_any (z0 := (-2) - x_270)
          refine g_isub C (v := x_272) dX12_book_50 hx_272 ?_
          obtain ⟨x_273, hx_273, rx_273⟩ := ex_getw (I := I_244) (a := x) (j := 10) (lo := (-2147483648)) (hi := 2147483647) hUI_244.1 hLx (ro_o hkx (by decide)) rfl
          have f_274 : s_251.mfault = x_273 := (congrArg NR_.mfault hs_251).symm.trans hx_273
          have mf_275 : mBookF a0 (NVf R I J x) (NWf R I J x) (YTf R I J x) (MTf R I J x) (NRf R I J x) = x_273 := by (try simp only [f_227, hx_228, f_229, h_230, c_249, (eq_true h_256), hx_270, f_271, hx_272, hx_273, f_274, if_true, if_false, mqM_tp, mqM_size, mqM_limit, mqM_to, mqM_frm, mqM_kind, mqM_number, mqM_sign, mqM_word, MT_.w_tp, MT_.w_size, MT_.w_limit, MT_.w_to, MT_.w_frm, MT_.w_kind, MT_.w_number, MT_.w_sign, MT_.w_word, nqM_rd, nqM_rn, nqM_taped, nqM_mfault, nqM_mplace, nqM_told, nqM_hl, nqM_hd, NR_.w_rd, NR_.w_rn, NR_.w_taped, NR_.w_mfault, NR_.w_mplace, NR_.w_told, NR_.w_hl, NR_.w_hd, vqM_nv, NV_.w_nv, zqM_nw, NW_.w_nw, uqM_blm, YT_.w_blm] at hQ_225); (try simp only [f_227, hx_228, f_229, h_230, c_249, (eq_true h_256), hx_270, f_271, hx_272, hx_273, f_274, if_true, if_false, mqM_tp, mqM_size, mqM_limit, mqM_to, mqM_frm, mqM_kind, mqM_number, mqM_sign, mqM_word, MT_.w_tp, MT_.w_size, MT_.w_limit, MT_.w_to, MT_.w_frm, MT_.w_kind, MT_.w_number, MT_.w_sign, MT_.w_word, nqM_rd, nqM_rn, nqM_taped, nqM_mfault, nqM_mplace, nqM_told, nqM_hl, nqM_hd, NR_.w_rd, NR_.w_rn, NR_.w_taped, NR_.w_mfault, NR_.w_mplace, NR_.w_told, NR_.w_hl, NR_.w_hd, vqM_nv, NV_.w_nv, zqM_nw, NW_.w_nw, uqM_blm, YT_.w_blm] at u_226); simp only [evqx, hs_252, hs_6, ezqx, hs_253, hs_7, euqx, hs_254, hs_8, emqx, hs_250, hs_10, enqx, hs_251, hs_13, hQ_225, f_227, u_226, hx_228, f_229, h_230, c_249, (eq_true h_256), hx_270, f_271, hx_272, hx_273, f_274, if_true, if_false, mqM_tp, mqM_size, mqM_limit, mqM_to, mqM_frm, mqM_kind, mqM_number, mqM_sign, mqM_word, MT_.w_tp, MT_.w_size, MT_.w_limit, MT_.w_to, MT_.w_frm, MT_.w_kind, MT_.w_number, MT_.w_sign, MT_.w_word, nqM_rd, nqM_rn, nqM_taped, nqM_mfault, nqM_mplace, nqM_told, nqM_hl, nqM_hd, NR_.w_rd, NR_.w_rn, NR_.w_taped, NR_.w_mfault, NR_.w_mplace, NR_.w_told, NR_.w_hl, NR_.w_hd, vqM_nv, NV_.w_nv, zqM_nw, NW_.w_nw, uqM_blm, YT_.w_blm]
          have f_276 : s_251.taped = 0 := (congrArg NR_.taped hs_251).symm.trans (fq_at hFI_244 hLx hkx (by decide) (by decide) q_215)
          exact g_zret (ty := .int) (r := x_272) B K rfl (rfl) ⟨hUI_244, hF_247, hG_248, rx_272, (Eq.trans hx_273 mf_275.symm), (hd_fq W9 hLx hkx hd_217 hFI_244 (by decide)), (Or.inl ⟨rg_01 r_213, (fq_at hFI_244 hLx hkx (by decide) (by decide) q_215)⟩)⟩ dX12_book_51
  refine g_aload_n C 0 dX12_book_0 rfl rfl ?_
  refine g_iconst C (v := 0) dX12_book_1 (by decide) ?_
  refine h_putI C K hLx hkx f_12_82 p_12_0 dX12_book_2 (fun I_277 hI_277 => ?_)
  have hU_278 := iw_put W9 hU hI_277 (ro_o hkx (by decide)) (lo := (-2147483648)) (hi := 2147483647) (rfl) (rg_all _) rfl
  have hF_279 := fq_puto hF hI_277 hkx (by decide) (by decide)
  have hs_280 : NVq I_277 J x b_5 = s_6 := by rw [hI_277]; exact (vq_oI wvqx (ro_o hkx (by decide)) (by decide)).trans hs_6
  have hs_281 : NWq I_277 J x b_2 = s_7 := by rw [hI_277]; exact (zq_oI wzqx (ro_o hkx (by decide)) (by decide)).trans hs_7
  have hs_282 : YTq I_277 J x = s_8 := by rw [hI_277]; exact (uq_uIt wuqx (by decide)).trans hs_8
  have hs_283 : MTq I_277 J x b_9 = s_10 := by rw [hI_277]; exact (mq_uIt wmqx (by decide)).trans hs_10
  have hs_284 : NRq I_277 J x b_11 b_12 = s_13 := by rw [hI_277]; exact (nq_uIt wnqx (by decide)).trans hs_13
  refine g_iload_n C 1 dX12_book_5 rfl rfl ?_
  refine g_iconst C (v := 0) dX12_book_6 (by decide) ?_
  refine g_iconst C (v := 1) dX12_book_7 (by decide) ?_
  refine g_callSI C K (c_X12_isIn_e W9 a0 0 1  hU_278) s_12_149 rfl ⟨rfl, rfl⟩ ⟨Nat.le_of_ble_eq_true rfl, Nat.le_of_ble_eq_true rfl⟩ (Nat.le_of_ble_eq_true rfl) ⟨Nat.le_of_ble_eq_true rfl, Nat.le_of_ble_eq_true rfl⟩ dX12_book_8 rfl (st := []) (fun x_285 I_286 J_287 h_288 => ?_)
  obtain ⟨rfl, rfl, rx_285, fx_285, ex_285⟩ := h_288
  have c_289 : isIn_ (a0) (0) (1) = x_285 := fx_285.symm
  refine g_if_ne C (tgt := 18) dX12_book_11 (by decide) (fun h_290 => ?_) (fun h_290 => ?_)
  · skip
    have n_291 : ¬ x_285 = 0 := h_290
    have r_292 := ne_lo (lo := 1) n_291 rx_285 rc_0 rfl (by decide)
    have r_293 := le_r (((ex_285.2.1) n_291)) rc_0 (rg_all a0)
    have r_294 := le_l (((ex_285.2.2) n_291)) r_293 rc_1
    refine g_aload_n C 0 dX12_book_18 rfl rfl ?_
    refine g_sipush C (v := 400) dX12_book_19 (by decide) ?_
    refine g_callVV C K (c_X12_begin_e W9 hLx hkx 400 (rg_w rc_400 (by decide) (by decide)) hU_278) hLx hkx (by decide) rfl v_12_216 rfl ⟨rfl, rfl⟩ ⟨Nat.le_of_ble_eq_true rfl, Nat.le_of_ble_eq_true rfl⟩ (Nat.le_of_ble_eq_true rfl) ⟨Nat.le_of_ble_eq_true rfl, Nat.le_of_ble_eq_true rfl⟩ dX12_book_22 rfl (st := []) (fun I_296 J_297 h_298 => ?_)
    obtain ⟨hUI_296, hFI_296, hGJ_297, fx_295, ex_295⟩ := h_298
    have hF_299 := fq_tr hF_279 hFI_296 (by decide)
    have hG_300 := fq_tr hG hGJ_297 (by decide)
    obtain ⟨s_302, hs_302⟩ : ∃ z, MTq I_296 J_297 x b_9 = z := ⟨_, rfl⟩
    obtain ⟨s_303, hs_303⟩ : ∃ z, NRq I_296 J_297 x b_11 b_12 = z := ⟨_, rfl⟩
    have c_301 : mBegin (400) (s_10) (s_13) = (s_302, s_303) := by have q := fx_295; simp only [emqx, enqx, hs_283, hs_284, hs_302, hs_303] at q; exact q.symm
    have hs_304 : NVq I_296 J_297 x b_5 = s_6 := (vq_fq wvqx hFI_296 hGJ_297 (by decide) (by decide)).trans hs_280
    have hs_305 : NWq I_296 J_297 x b_2 = s_7 := (zq_fq wzqx hFI_296 hGJ_297 (by decide) (by decide)).trans hs_281
    have hs_306 : YTq I_296 J_297 x = s_8 := (uq_fq wuqx hFI_296 hGJ_297 (by decide) (by decide)).trans hs_282
    refine g_aload_n C 0 dX12_book_25 rfl rfl ?_
    refine g_iconst C (v := 0) dX12_book_26 (by decide) ?_
    refine h_putI C K hLx hkx f_12_361 p_12_44 dX12_book_27 (fun I_307 hI_307 => ?_)
    have hU_308 := iw_ln W9 hUI_296 (uw_put hUI_296.1 hI_307 (ro_o hkx (by decide)) (lo := 0) (hi := 40) (rfl) (rg_w rc_0 (by decide) (by decide))) hLx hkx hb_4 hI_307 (fun j hj => by rw [show (0 : Int32).toInt = 0 from by decide] at hj; omega)
    have hF_309 := fq_puto hF_299 hI_307 hkx (by decide) (by decide)
    have hs_310 : NVq I_307 J_297 x b_5 = s_6 := by rw [hI_307]; exact (vq_oI wvqx (ro_o hkx (by decide)) (by decide)).trans hs_304
    have hs_311 : NWq I_307 J_297 x b_2 = s_7 := by rw [hI_307]; exact (zq_oI wzqx (ro_o hkx (by decide)) (by decide)).trans hs_305
    have hs_312 : YTq I_307 J_297 x = (YT_.w_blm s_8 (0)) := by rw [hI_307]; exact ((uq_blm wuqx).trans (congrArg (fun z : YT_ => YT_.w_blm z (0)) hs_306)).trans rfl
    have hs_313 : MTq I_307 J_297 x b_9 = s_302 := by rw [hI_307]; exact (mq_uIt wmqx (by decide)).trans hs_302
    have hs_314 : NRq I_307 J_297 x b_11 b_12 = s_303 := by rw [hI_307]; exact (nq_uIt wnqx (by decide)).trans hs_303
    refine g_lo (is := [0, 1]) (lo2 := [(0, .ref x), (1, .int a0)]) rfl ?_
    exact l_30 41 I_307 J_297 hU_308 hF_309 hG_300 (r_294) 0 (rg_w rc_0 (by decide) (by decide)) (kp_j hI_307 (by decide) ex_295) (kp_s hI_307) (hd_u (r := 0) W9 hLx hkx (hd_fq W9 hLx hkx (hd_u (r := 0) W9 hLx hkx hd_rf hI_277 (Or.inl (ro_o hkx (by decide)))) hFI_296 (by decide)) hI_307 (Or.inl (ro_o hkx (by decide)))) (by simp only [mBookF, evqx, hs_310, hs_6, ezqx, hs_311, hs_7, euqx, hs_312, hs_8, emqx, hs_313, hs_10, enqx, hs_314, hs_13, hx_1, c_289, h_290, c_301, if_true, if_false, mqM_tp, mqM_size, mqM_limit, mqM_to, mqM_frm, mqM_kind, mqM_number, mqM_sign, mqM_word, MT_.w_tp, MT_.w_size, MT_.w_limit, MT_.w_to, MT_.w_frm, MT_.w_kind, MT_.w_number, MT_.w_sign, MT_.w_word, nqM_rd, nqM_rn, nqM_taped, nqM_mfault, nqM_mplace, nqM_told, nqM_hl, nqM_hd, NR_.w_rd, NR_.w_rn, NR_.w_taped, NR_.w_mfault, NR_.w_mplace, NR_.w_told, NR_.w_hl, NR_.w_hd, vqM_nv, NV_.w_nv, zqM_nw, NW_.w_nw, uqM_blm, YT_.w_blm]) (ms_s (a := 0) (b := 40) (N := 41) (rg_w rc_0 (by decide) (by decide)) (by decide))
  · skip
    have r_315 := (⟨(rx_285).1, (eq_rg (h_290) rc_0).2⟩ : Rg 0 0 x_285)
    refine g_sipush C (v := (-1000)) dX12_book_14 (by decide) ?_
    obtain ⟨x_316, hx_316, rx_316⟩ := ex_getw (I := I_277) (a := x) (j := 10) (lo := (-2147483648)) (hi := 2147483647) hU_278.1 hLx (ro_o hkx (by decide)) rfl
    have f_317 : s_13.mfault = x_316 := (congrArg NR_.mfault hs_284).symm.trans hx_316
    have mf_318 : mBookF a0 (NVf R I J x) (NWf R I J x) (YTf R I J x) (MTf R I J x) (NRf R I J x) = x_316 := by simp only [mBookF, evqx, hs_280, hs_6, ezqx, hs_281, hs_7, euqx, hs_282, hs_8, emqx, hs_283, hs_10, enqx, hs_284, hs_13, hx_1, c_289, (eq_true h_290), hx_316, f_317, if_true, if_false, mqM_tp, mqM_size, mqM_limit, mqM_to, mqM_frm, mqM_kind, mqM_number, mqM_sign, mqM_word, MT_.w_tp, MT_.w_size, MT_.w_limit, MT_.w_to, MT_.w_frm, MT_.w_kind, MT_.w_number, MT_.w_sign, MT_.w_word, nqM_rd, nqM_rn, nqM_taped, nqM_mfault, nqM_mplace, nqM_told, nqM_hl, nqM_hd, NR_.w_rd, NR_.w_rn, NR_.w_taped, NR_.w_mfault, NR_.w_mplace, NR_.w_told, NR_.w_hl, NR_.w_hd, vqM_nv, NV_.w_nv, zqM_nw, NW_.w_nw, uqM_blm, YT_.w_blm]
    have f_319 : s_13.taped = x_1 := (congrArg NR_.taped hs_284).symm.trans (kp_j hI_277 (by decide) hx_1)
    exact g_zret (ty := .int) (r := (-1000)) B K rfl (rfl) ⟨hU_278, hF_279, hG, rg_all _, (Eq.trans hx_316 mf_318.symm), (hd_u (r := 0) W9 hLx hkx hd_rf hI_277 (Or.inl (ro_o hkx (by decide)))), (Or.inr ⟨(fun e => absurd (ex_285.1 (rg_1k r_315 rc_0)) (by rw [e]; decide)), (fun e => absurd (ex_285.1 (rg_1k r_315 rc_0)) (by rw [e]; decide)), (kp_j hI_277 (by decide) hx_1).trans hx_1.symm⟩)⟩ dX12_book_17
