set_option maxRecDepth 100000 in
set_option maxHeartbeats 8000000 in
theorem c_X12_readBracket_3 {l : Launch} {D : va_G} {cy : Nat → ClassId} {L : List Nat} {κ ln : Nat → Nat} {R : Nat → Nat → Option Nat} {I : Nat → Nat → Int32} {J : Nat → Nat → Int64} {ow : Nat → Nat × Nat} (W9 : ∀ a ∈ L, Shp L κ ln R ow a) {x : Nat} (hLx : x ∈ L) (hkx : κ x = 12) (hU : Iw L κ R ow I) (hn : (I x 47).toInt ≤ 2 * (I x 48).toInt) (hwi : I x 49 = 3) : CtI l yX12_readBracket cX12_readBracket 1 (some .boolean) { frames := 26, cells := 0, slots := 0, locals := 559 } D cy L κ ln R I J [.ref x] (fun r I2 J2 => Iw L κ R ow I2 ∧ Fq L κ ow [1205, 1206, 1207, 1208, 1209, 1210, 1211, 1213, 1247, 1248, 1249, 1250, 86600] I I2 ∧ Fq L κ ow [1212] J J2 ∧ Rg 0 1 r ∧ ((r, MTf R I2 J2 x, NRf R I2 J2 x, QTf R I2 J2 x) = mBrK 5 (NVf R I J x) (NWf R I J x) (MTf R I J x) (NRf R I J x) (QTf R I J x)) ∧ (¬ r = 0 → Sz_ x I I2 1) ∧ (I2 x 49 = 3)) := by
  obtain ⟨x_1, hx_1, rx_1⟩ := ex_getw (I := I) (a := x) (j := 47) (lo := 0) (hi := 60) hU.1 hLx (ro_o hkx (by decide)) rfl
  obtain ⟨x_2, hx_2, rx_2⟩ := ex_getw (I := I) (a := x) (j := 48) (lo := 0) (hi := 20) hU.1 hLx (ro_o hkx (by decide)) rfl
  rw [hx_1, hx_2] at hn
  obtain ⟨x_3, hx_3, rx_3⟩ := ex_getw (I := I) (a := x) (j := 50) (lo := 0) (hi := 59) hU.1 hLx (ro_o hkx (by decide)) rfl
  refine CtI.of (by decide +kernel) (Nat.le_of_ble_eq_true rfl) ?_
  intro p e s m below meth c B K
  have C := B.1
  have hF : Fq L κ ow [1205, 1206, 1207, 1208, 1209, 1210, 1211, 1213, 1247, 1248, 1249, 1250, 86600] I I := fq_rf
  have hG : Fq L κ ow [1212] J J := fq_rf
  obtain ⟨b_4, hb_4, hb_4L, hb_4k, hb_4n, hb_4o⟩ := shp_a (W9 x hLx) hkx 19 15 13 rfl (by decide)
  have evqx : ∀ I J, NVf R I J x = NVq I J x b_4 := fun I J => by simp only [NVf, rr_, Option.getD_some, hb_4]
  have wvqx : vqw_ L κ ow x b_4 := ⟨⟨hLx, hb_4L⟩, ⟨(ro_o hkx (by decide)), (ro_a hb_4k (by decide) hb_4o hkx rfl)⟩⟩
  obtain ⟨s_5, hs_5⟩ : ∃ z, NVq I J x b_4 = z := ⟨_, rfl⟩
  obtain ⟨b_6, hb_6, hb_6L, hb_6k, hb_6n, hb_6o⟩ := shp_a (W9 x hLx) hkx 14 14 389 rfl (by decide)
  have ezqx : ∀ I J, NWf R I J x = NWq I J x b_6 := fun I J => by simp only [NWf, rr_, Option.getD_some, hb_6]
  have wzqx : zqw_ L κ ow x b_6 := ⟨⟨hLx, hb_6L⟩, ⟨(ro_o hkx (by decide)), (ro_a hb_6k (by decide) hb_6o hkx rfl)⟩⟩
  obtain ⟨s_7, hs_7⟩ : ∃ z, NWq I J x b_6 = z := ⟨_, rfl⟩
  obtain ⟨b_8, hb_8, hb_8L, hb_8k, hb_8n, hb_8o⟩ := shp_a (W9 x hLx) hkx 1 14 940 rfl (by decide)
  have emqx : ∀ I J, MTf R I J x = MTq I J x b_8 := fun I J => by simp only [MTf, rr_, Option.getD_some, hb_8]
  have wmqx : mqw_ L κ ow x b_8 := ⟨⟨hLx, hb_8L⟩, ⟨(ro_o hkx (by decide)), (ro_a hb_8k (by decide) hb_8o hkx rfl)⟩⟩
  obtain ⟨s_9, hs_9⟩ : ∃ z, MTq I J x b_8 = z := ⟨_, rfl⟩
  obtain ⟨b_10, hb_10, hb_10L, hb_10k, hb_10n, hb_10o⟩ := shp_a (W9 x hLx) hkx 15 14 72 rfl (by decide)
  obtain ⟨b_11, hb_11, hb_11L, hb_11k, hb_11n, hb_11o⟩ := shp_a (W9 x hLx) hkx 20 15 13 rfl (by decide)
  have enqx : ∀ I J, NRf R I J x = NRq I J x b_10 b_11 := fun I J => by simp only [NRf, rr_, Option.getD_some, hb_10, hb_11]
  have wnqx : nqw_ L κ ow x b_10 b_11 := ⟨⟨hLx, hb_10L, hb_11L⟩, ⟨(ro_o hkx (by decide)), (ro_a hb_10k (by decide) hb_10o hkx rfl), (ro_a hb_11k (by decide) hb_11o hkx rfl)⟩⟩
  obtain ⟨s_12, hs_12⟩ : ∃ z, NRq I J x b_10 b_11 = z := ⟨_, rfl⟩
  have eqqx : ∀ I J, QTf R I J x = QTq I J x := fun I J => by simp only [QTf, rr_, Option.getD_some]
  have wqqx : qqw_ L κ ow x := ⟨hLx, (ro_o hkx (by decide))⟩
  obtain ⟨s_13, hs_13⟩ : ∃ z, QTq I J x = z := ⟨_, rfl⟩
  refine g_lo (is := [0]) (lo2 := [(0, .ref x)]) rfl ?_
  refine g_aload_n C 0 dX12_readBracket_0 rfl rfl ?_
  have f_14 : s_13.om = x_2 := (congrArg QT_.om hs_13).symm.trans hx_2
  refine g_callVI C K (c_X12_readOr_3 W9 hLx hkx   hU  (by rw [hx_1, hx_2]; omega) (hwi)) hLx hkx (by decide) rfl v_12_413 rfl ⟨rfl, rfl⟩ ⟨Nat.le_of_ble_eq_true rfl, Nat.le_of_ble_eq_true rfl⟩ (Nat.le_of_ble_eq_true rfl) ⟨Nat.le_of_ble_eq_true rfl, Nat.le_of_ble_eq_true rfl⟩ dX12_readBracket_1 rfl (st := []) (fun x_15 I_16 J_17 h_18 => ?_)
  obtain ⟨hUI_16, hFI_16, hGJ_17, rx_15, fx_15, ex_15⟩ := h_18
  have hF_19 := fq_tr hF hFI_16 (by decide)
  have hG_20 := fq_tr hG hGJ_17 (by decide)
  obtain ⟨s_22, hs_22⟩ : ∃ z, MTq I_16 J_17 x b_8 = z := ⟨_, rfl⟩
  obtain ⟨s_23, hs_23⟩ : ∃ z, NRq I_16 J_17 x b_10 b_11 = z := ⟨_, rfl⟩
  obtain ⟨s_24, hs_24⟩ : ∃ z, QTq I_16 J_17 x = z := ⟨_, rfl⟩
  have c_21 : mOrK 5 (s_5) (s_7) (s_9) (s_12) (s_13) = (x_15, s_22, s_23, s_24) := by have q := fx_15; simp only [evqx, ezqx, emqx, enqx, eqqx, hs_5, hs_7, hs_9, hs_12, hs_13, hs_22, hs_23, hs_24] at q; exact q.symm
  have hs_25 : NVq I_16 J_17 x b_4 = s_5 := (vq_fq wvqx hFI_16 hGJ_17 (by decide) (by decide)).trans hs_5
  have hs_26 : NWq I_16 J_17 x b_6 = s_7 := (zq_fq wzqx hFI_16 hGJ_17 (by decide) (by decide)).trans hs_7
  obtain ⟨x_27, hx_27, rx_27⟩ := ex_getw (I := I_16) (a := x) (j := 47) (lo := 0) (hi := 60) hUI_16.1 hLx (ro_o hkx (by decide)) rfl
  obtain ⟨x_28, hx_28, rx_28⟩ := ex_getw (I := I_16) (a := x) (j := 50) (lo := 0) (hi := 59) hUI_16.1 hLx (ro_o hkx (by decide)) rfl
  obtain ⟨x_29, hx_29, rx_29⟩ := ex_getw (I := I_16) (a := x) (j := 48) (lo := 0) (hi := 20) hUI_16.1 hLx (ro_o hkx (by decide)) rfl
  have f_30 : s_24.om = x_29 := (congrArg QT_.om hs_24).symm.trans hx_29
  refine g_if_ne C (tgt := 9) dX12_readBracket_4 (by decide) (fun h_31 => ?_) (fun h_31 => ?_)
  · skip
    have n_32 : ¬ x_15 = 0 := h_31
    have r_33 := ne_lo (lo := 1) n_32 rx_15 rc_0 rfl (by decide)
    have f_34 := sz_v hx_1 hx_2 hx_27 hx_29 hx_28 (ex_15.1 n_32)
    refine g_aload_n C 0 dX12_readBracket_9 rfl rfl ?_
    refine g_bipush C (v := 41) dX12_readBracket_10 (by decide) ?_
    obtain ⟨x_35, hx_35, rx_35⟩ := ex_getw (I := I_16) (a := x) (j := 7) (lo := 0) (hi := 4) hUI_16.1 hLx (ro_o hkx (by decide)) rfl
    have f_36 : s_22.kind = x_35 := (congrArg MT_.kind hs_22).symm.trans hx_35
    refine g_callVI C K (c_X12_isSign W9 hLx hkx 41 (rg_w rc_41 (by decide) (by decide)) hUI_16) hLx hkx (by decide) rfl v_12_159 rfl ⟨rfl, rfl⟩ ⟨Nat.le_of_ble_eq_true rfl, Nat.le_of_ble_eq_true rfl⟩ (Nat.le_of_ble_eq_true rfl) ⟨Nat.le_of_ble_eq_true rfl, Nat.le_of_ble_eq_true rfl⟩ dX12_readBracket_12 rfl (st := []) (fun x_37 I_38 J_39 h_40 => ?_)
    obtain ⟨rfl, rfl, rx_37, fx_37, ex_37⟩ := h_40
    have c_41 : mIsSign (41) (s_22) = x_37 := by have q := fx_37; simp only [emqx, hs_22] at q; exact q.symm
    have q_42 := hx_35
    refine g_if_ne C (tgt := 24) dX12_readBracket_15 (by decide) (fun h_43 => ?_) (fun h_43 => ?_)
    · skip
      have n_44 : ¬ x_37 = 0 := h_43
      have r_45 := ne_lo (lo := 1) n_44 rx_37 rc_0 rfl (by decide)
      have r_46 := rg_i rx_35 (eq_rg q_42.symm ((ex_37) n_44)) (lo := 4) (hi := 4) (by decide) (by decide)
      refine g_aload_n C 0 dX12_readBracket_24 rfl rfl ?_
      refine g_callVV C K (c_X12_go W9 hLx hkx   hUI_16) hLx hkx (by decide) rfl v_12_156 rfl ⟨rfl, rfl⟩ ⟨Nat.le_of_ble_eq_true rfl, Nat.le_of_ble_eq_true rfl⟩ (Nat.le_of_ble_eq_true rfl) ⟨Nat.le_of_ble_eq_true rfl, Nat.le_of_ble_eq_true rfl⟩ dX12_readBracket_25 rfl (st := []) (fun I_48 J_49 h_50 => ?_)
      obtain ⟨hUI_48, hFI_48, hGJ_49, fx_47, ex_47⟩ := h_50
      have hF_51 := fq_tr hF_19 hFI_48 (by decide)
      have hG_52 := fq_tr hG_20 hGJ_49 (by decide)
      obtain ⟨s_54, hs_54⟩ : ∃ z, MTq I_48 J_49 x b_8 = z := ⟨_, rfl⟩
      have c_53 : mGo (s_22) = s_54 := by have q := fx_47; simp only [emqx, hs_22, hs_54] at q; exact q.symm
      have hs_55 : NVq I_48 J_49 x b_4 = s_5 := (vq_fq wvqx hFI_48 hGJ_49 (by decide) (by decide)).trans hs_25
      have hs_56 : NWq I_48 J_49 x b_6 = s_7 := (zq_fq wzqx hFI_48 hGJ_49 (by decide) (by decide)).trans hs_26
      have hs_57 : NRq I_48 J_49 x b_10 b_11 = s_23 := (nq_fq wnqx hFI_48 hGJ_49 (by decide) (by decide)).trans hs_23
      have hs_58 : QTq I_48 J_49 x = s_24 := (qq_fq wqqx hFI_48 hGJ_49 (by decide) (by decide)).trans hs_24
      refine g_iconst C (v := 1) dX12_readBracket_28 (by decide) ?_
      exact g_zret (ty := .boolean) (r := 1) B K rfl (rfl) ⟨hUI_48, hF_51, hG_52, rg_w rc_1 (by decide) (by decide), (by simp only [mBrK, mBadQ, evqx, hs_55, hs_5, ezqx, hs_56, hs_7, emqx, hs_54, hs_9, enqx, hs_57, hs_12, eqqx, hs_58, hs_13, hx_1, hx_2, hx_3, f_14, c_21, hx_27, hx_28, hx_29, f_30, h_31, hx_35, f_36, c_41, h_43, c_53, if_true, if_false, mqM_tp, mqM_size, mqM_limit, mqM_to, mqM_frm, mqM_kind, mqM_number, mqM_sign, mqM_word, MT_.w_tp, MT_.w_size, MT_.w_limit, MT_.w_to, MT_.w_frm, MT_.w_kind, MT_.w_number, MT_.w_sign, MT_.w_word, nqM_rd, nqM_rn, nqM_taped, nqM_mfault, nqM_mplace, nqM_told, nqM_hl, nqM_hd, NR_.w_rd, NR_.w_rn, NR_.w_taped, NR_.w_mfault, NR_.w_mplace, NR_.w_told, NR_.w_hl, NR_.w_hd, qqM_om, QT_.w_om, vqM_nv, NV_.w_nv, zqM_nw, NW_.w_nw]), (fun _ => (sz_m hx_1 hx_2 (fq_at hFI_48 hLx hkx (by decide) (by decide) hx_27) (fq_at hFI_48 hLx hkx (by decide) (by decide) hx_29) (fq_at hFI_48 hLx hkx (by decide) (by decide) hx_28) ⟨by omega, by omega, by omega, by omega⟩)), (fq_at hFI_48 hLx hkx (by decide) (by decide) ex_15.2)⟩ dX12_readBracket_29
    · skip
      have r_59 := (⟨(rx_37).1, (eq_rg (h_43) rc_0).2⟩ : Rg 0 0 x_37)
      refine g_aload_n C 0 dX12_readBracket_18 rfl rfl ?_
      refine g_iconst C (v := 1) dX12_readBracket_19 (by decide) ?_
      refine g_callVI C K (c_X12_bad W9 hLx hkx 1 (rg_w rc_1 (by decide) (by decide)) hUI_16) hLx hkx (by decide) rfl v_12_146 rfl ⟨rfl, rfl⟩ ⟨Nat.le_of_ble_eq_true rfl, Nat.le_of_ble_eq_true rfl⟩ (Nat.le_of_ble_eq_true rfl) ⟨Nat.le_of_ble_eq_true rfl, Nat.le_of_ble_eq_true rfl⟩ dX12_readBracket_20 rfl (st := []) (fun x_60 I_61 J_62 h_63 => ?_)
      obtain ⟨hUI_61, hFI_61, hGJ_62, rx_60, fx_60⟩ := h_63
      have hF_64 := fq_tr hF_19 hFI_61 (by decide)
      have hG_65 := fq_tr hG_20 hGJ_62 (by decide)
      obtain ⟨s_67, hs_67⟩ : ∃ z, MTq I_61 J_62 x b_8 = z := ⟨_, rfl⟩
      obtain ⟨s_68, hs_68⟩ : ∃ z, NRq I_61 J_62 x b_10 b_11 = z := ⟨_, rfl⟩
      have c_66 : mBad (1) (s_22) (s_23) = (x_60, s_67, s_68) := by have q := fx_60; simp only [emqx, enqx, hs_22, hs_23, hs_67, hs_68] at q; exact q.symm
      have hs_69 : NVq I_61 J_62 x b_4 = s_5 := (vq_fq wvqx hFI_61 hGJ_62 (by decide) (by decide)).trans hs_25
      have hs_70 : NWq I_61 J_62 x b_6 = s_7 := (zq_fq wzqx hFI_61 hGJ_62 (by decide) (by decide)).trans hs_26
      have hs_71 : QTq I_61 J_62 x = s_24 := (qq_fq wqqx hFI_61 hGJ_62 (by decide) (by decide)).trans hs_24
      exact g_zret (ty := .boolean) (r := x_60) B K rfl (nar_z (rg_w rx_60 (by decide) (by decide))) ⟨hUI_61, hF_64, hG_65, rg_w rx_60 (by decide) (by decide), (by simp only [mBrK, mBadQ, evqx, hs_69, hs_5, ezqx, hs_70, hs_7, emqx, hs_67, hs_9, enqx, hs_68, hs_12, eqqx, hs_71, hs_13, hx_1, hx_2, hx_3, f_14, c_21, hx_27, hx_28, hx_29, f_30, h_31, hx_35, f_36, c_41, (eq_true h_43), c_66, if_true, if_false, mqM_tp, mqM_size, mqM_limit, mqM_to, mqM_frm, mqM_kind, mqM_number, mqM_sign, mqM_word, MT_.w_tp, MT_.w_size, MT_.w_limit, MT_.w_to, MT_.w_frm, MT_.w_kind, MT_.w_number, MT_.w_sign, MT_.w_word, nqM_rd, nqM_rn, nqM_taped, nqM_mfault, nqM_mplace, nqM_told, nqM_hl, nqM_hd, NR_.w_rd, NR_.w_rn, NR_.w_taped, NR_.w_mfault, NR_.w_mplace, NR_.w_told, NR_.w_hl, NR_.w_hd, qqM_om, QT_.w_om, vqM_nv, NV_.w_nv, zqM_nw, NW_.w_nw]), (fun q => ne_no q rx_60 rc_0), (fq_at hFI_61 hLx hkx (by decide) (by decide) ex_15.2)⟩ dX12_readBracket_23
  · skip
    have r_72 := (⟨(rx_15).1, (eq_rg (h_31) rc_0).2⟩ : Rg 0 0 x_15)
    refine g_iconst C (v := 0) dX12_readBracket_7 (by decide) ?_
    exact g_zret (ty := .boolean) (r := 0) B K rfl (rfl) ⟨hUI_16, hF_19, hG_20, rg_w rc_0 (by decide) (by decide), (by simp only [mBrK, mBadQ, evqx, hs_25, hs_5, ezqx, hs_26, hs_7, emqx, hs_22, hs_9, enqx, hs_23, hs_12, eqqx, hs_24, hs_13, hx_1, hx_2, hx_3, f_14, c_21, hx_27, hx_28, hx_29, f_30, (eq_true h_31), if_true, if_false, mqM_tp, mqM_size, mqM_limit, mqM_to, mqM_frm, mqM_kind, mqM_number, mqM_sign, mqM_word, MT_.w_tp, MT_.w_size, MT_.w_limit, MT_.w_to, MT_.w_frm, MT_.w_kind, MT_.w_number, MT_.w_sign, MT_.w_word, nqM_rd, nqM_rn, nqM_taped, nqM_mfault, nqM_mplace, nqM_told, nqM_hl, nqM_hd, NR_.w_rd, NR_.w_rn, NR_.w_taped, NR_.w_mfault, NR_.w_mplace, NR_.w_told, NR_.w_hl, NR_.w_hd, qqM_om, QT_.w_om, vqM_nv, NV_.w_nv, zqM_nw, NW_.w_nw]), (fun q => absurd rfl q), ex_15.2⟩ dX12_readBracket_8
set_option maxRecDepth 100000 in
set_option maxHeartbeats 8000000 in
theorem c_X12_readNot_3 {l : Launch} {D : va_G} {cy : Nat → ClassId} {L : List Nat} {κ ln : Nat → Nat} {R : Nat → Nat → Option Nat} {I : Nat → Nat → Int32} {J : Nat → Nat → Int64} {ow : Nat → Nat × Nat} (W9 : ∀ a ∈ L, Shp L κ ln R ow a) {x : Nat} (hLx : x ∈ L) (hkx : κ x = 12) (hU : Iw L κ R ow I) (hn : (I x 47).toInt ≤ 2 * (I x 48).toInt) (hwi : I x 49 = 3) : CtI l yX12_readNot cX12_readNot 1 (some .boolean) { frames := 24, cells := 0, slots := 0, locals := 517 } D cy L κ ln R I J [.ref x] (fun r I2 J2 => Iw L κ R ow I2 ∧ Fq L κ ow [1205, 1206, 1207, 1208, 1209, 1210, 1211, 1213, 1247, 1248, 1249, 1250, 86600] I I2 ∧ Fq L κ ow [1212] J J2 ∧ Rg 0 1 r ∧ ((r, MTf R I2 J2 x, NRf R I2 J2 x, QTf R I2 J2 x) = mNtK 5 (NVf R I J x) (NWf R I J x) (MTf R I J x) (NRf R I J x) (QTf R I J x)) ∧ (¬ r = 0 → Sz_ x I I2 0) ∧ (I2 x 49 = 3)) := by
  obtain ⟨x_1, hx_1, rx_1⟩ := ex_getw (I := I) (a := x) (j := 47) (lo := 0) (hi := 60) hU.1 hLx (ro_o hkx (by decide)) rfl
  obtain ⟨x_2, hx_2, rx_2⟩ := ex_getw (I := I) (a := x) (j := 48) (lo := 0) (hi := 20) hU.1 hLx (ro_o hkx (by decide)) rfl
  rw [hx_1, hx_2] at hn
  obtain ⟨x_3, hx_3, rx_3⟩ := ex_getw (I := I) (a := x) (j := 50) (lo := 0) (hi := 59) hU.1 hLx (ro_o hkx (by decide)) rfl
  refine CtI.of (by decide +kernel) (Nat.le_of_ble_eq_true rfl) ?_
  intro p e s m below meth c B K
  have C := B.1
  have hF : Fq L κ ow [1205, 1206, 1207, 1208, 1209, 1210, 1211, 1213, 1247, 1248, 1249, 1250, 86600] I I := fq_rf
  have hG : Fq L κ ow [1212] J J := fq_rf
  obtain ⟨b_4, hb_4, hb_4L, hb_4k, hb_4n, hb_4o⟩ := shp_a (W9 x hLx) hkx 19 15 13 rfl (by decide)
  have evqx : ∀ I J, NVf R I J x = NVq I J x b_4 := fun I J => by simp only [NVf, rr_, Option.getD_some, hb_4]
  have wvqx : vqw_ L κ ow x b_4 := ⟨⟨hLx, hb_4L⟩, ⟨(ro_o hkx (by decide)), (ro_a hb_4k (by decide) hb_4o hkx rfl)⟩⟩
  obtain ⟨s_5, hs_5⟩ : ∃ z, NVq I J x b_4 = z := ⟨_, rfl⟩
  obtain ⟨b_6, hb_6, hb_6L, hb_6k, hb_6n, hb_6o⟩ := shp_a (W9 x hLx) hkx 14 14 389 rfl (by decide)
  have ezqx : ∀ I J, NWf R I J x = NWq I J x b_6 := fun I J => by simp only [NWf, rr_, Option.getD_some, hb_6]
  have wzqx : zqw_ L κ ow x b_6 := ⟨⟨hLx, hb_6L⟩, ⟨(ro_o hkx (by decide)), (ro_a hb_6k (by decide) hb_6o hkx rfl)⟩⟩
  obtain ⟨s_7, hs_7⟩ : ∃ z, NWq I J x b_6 = z := ⟨_, rfl⟩
  obtain ⟨b_8, hb_8, hb_8L, hb_8k, hb_8n, hb_8o⟩ := shp_a (W9 x hLx) hkx 1 14 940 rfl (by decide)
  have emqx : ∀ I J, MTf R I J x = MTq I J x b_8 := fun I J => by simp only [MTf, rr_, Option.getD_some, hb_8]
  have wmqx : mqw_ L κ ow x b_8 := ⟨⟨hLx, hb_8L⟩, ⟨(ro_o hkx (by decide)), (ro_a hb_8k (by decide) hb_8o hkx rfl)⟩⟩
  obtain ⟨s_9, hs_9⟩ : ∃ z, MTq I J x b_8 = z := ⟨_, rfl⟩
  obtain ⟨b_10, hb_10, hb_10L, hb_10k, hb_10n, hb_10o⟩ := shp_a (W9 x hLx) hkx 15 14 72 rfl (by decide)
  obtain ⟨b_11, hb_11, hb_11L, hb_11k, hb_11n, hb_11o⟩ := shp_a (W9 x hLx) hkx 20 15 13 rfl (by decide)
  have enqx : ∀ I J, NRf R I J x = NRq I J x b_10 b_11 := fun I J => by simp only [NRf, rr_, Option.getD_some, hb_10, hb_11]
  have wnqx : nqw_ L κ ow x b_10 b_11 := ⟨⟨hLx, hb_10L, hb_11L⟩, ⟨(ro_o hkx (by decide)), (ro_a hb_10k (by decide) hb_10o hkx rfl), (ro_a hb_11k (by decide) hb_11o hkx rfl)⟩⟩
  obtain ⟨s_12, hs_12⟩ : ∃ z, NRq I J x b_10 b_11 = z := ⟨_, rfl⟩
  have eqqx : ∀ I J, QTf R I J x = QTq I J x := fun I J => by simp only [QTf, rr_, Option.getD_some]
  have wqqx : qqw_ L κ ow x := ⟨hLx, (ro_o hkx (by decide))⟩
  obtain ⟨s_13, hs_13⟩ : ∃ z, QTq I J x = z := ⟨_, rfl⟩
  refine g_lo (is := [0]) (lo2 := [(0, .ref x)]) rfl ?_
  refine g_aload_n C 0 dX12_readNot_0 rfl rfl ?_
  have f_14 : s_13.om = x_2 := (congrArg QT_.om hs_13).symm.trans hx_2
  refine g_callVI C K (c_X12_readSaid_3 W9 hLx hkx   hU  (by rw [hx_1, hx_2]; omega) (hwi)) hLx hkx (by decide) rfl v_12_392 rfl ⟨rfl, rfl⟩ ⟨Nat.le_of_ble_eq_true rfl, Nat.le_of_ble_eq_true rfl⟩ (Nat.le_of_ble_eq_true rfl) ⟨Nat.le_of_ble_eq_true rfl, Nat.le_of_ble_eq_true rfl⟩ dX12_readNot_1 rfl (st := []) (fun x_15 I_16 J_17 h_18 => ?_)
  obtain ⟨hUI_16, hFI_16, hGJ_17, rx_15, fx_15, ex_15⟩ := h_18
  have hF_19 := fq_tr hF hFI_16 (by decide)
  have hG_20 := fq_tr hG hGJ_17 (by decide)
  obtain ⟨s_22, hs_22⟩ : ∃ z, MTq I_16 J_17 x b_8 = z := ⟨_, rfl⟩
  obtain ⟨s_23, hs_23⟩ : ∃ z, NRq I_16 J_17 x b_10 b_11 = z := ⟨_, rfl⟩
  obtain ⟨s_24, hs_24⟩ : ∃ z, QTq I_16 J_17 x = z := ⟨_, rfl⟩
  have c_21 : mSaid 5 (s_5) (s_7) (s_9) (s_12) (s_13) = (x_15, s_22, s_23, s_24) := by have q := fx_15; simp only [evqx, ezqx, emqx, enqx, eqqx, hs_5, hs_7, hs_9, hs_12, hs_13, hs_22, hs_23, hs_24] at q; exact q.symm
  have hs_25 : NVq I_16 J_17 x b_4 = s_5 := (vq_fq wvqx hFI_16 hGJ_17 (by decide) (by decide)).trans hs_5
  have hs_26 : NWq I_16 J_17 x b_6 = s_7 := (zq_fq wzqx hFI_16 hGJ_17 (by decide) (by decide)).trans hs_7
  obtain ⟨x_27, hx_27, rx_27⟩ := ex_getw (I := I_16) (a := x) (j := 47) (lo := 0) (hi := 60) hUI_16.1 hLx (ro_o hkx (by decide)) rfl
  obtain ⟨x_28, hx_28, rx_28⟩ := ex_getw (I := I_16) (a := x) (j := 50) (lo := 0) (hi := 59) hUI_16.1 hLx (ro_o hkx (by decide)) rfl
  obtain ⟨x_29, hx_29, rx_29⟩ := ex_getw (I := I_16) (a := x) (j := 48) (lo := 0) (hi := 20) hUI_16.1 hLx (ro_o hkx (by decide)) rfl
  have f_30 : s_24.om = x_29 := (congrArg QT_.om hs_24).symm.trans hx_29
  refine g_if_ne C (tgt := 9) dX12_readNot_4 (by decide) (fun h_31 => ?_) (fun h_31 => ?_)
  · skip
    have n_32 : ¬ x_15 = 0 := h_31
    have r_33 := ne_lo (lo := 1) n_32 rx_15 rc_0 rfl (by decide)
    have f_34 := sz_v hx_1 hx_2 hx_27 hx_29 hx_28 (ex_15.1 n_32)
    refine g_aload_n C 0 dX12_readNot_9 rfl rfl ?_
    refine g_aload_n C 0 dX12_readNot_10 rfl rfl ?_
    refine g_iconst C (v := 1) dX12_readNot_11 (by decide) ?_
    refine g_aload_n C 0 dX12_readNot_12 rfl rfl ?_
    refine g_getI C K hLx hkx f_12_386 (v := x_28) hx_28 dX12_readNot_13 ?_
    refine g_iconst C (v := 0) dX12_readNot_16 (by decide) ?_
    refine g_iconst C (v := 0) dX12_readNot_17 (by decide) ?_
    have r_35 := (show Rg 0 59 x_27 from by have q1 := rx_27; have q2 := rx_29; unfold Rg at *; omega)
    refine g_callVI C K (c_X12_saysOne W9 hLx hkx 1 x_28 0 0 (rg_w rc_1 (by decide) (by decide)) (rx_28) (rg_w rc_0 (by decide) (by decide)) hUI_16  (eq_rg hx_27 (r_35)) (by rw [hx_27]; exact ⟨fun _ => ⟨by have := (rx_28).1; omega, by omega⟩, fun q => absurd q (by decide), fun q => absurd q (by decide)⟩)) hLx hkx (by decide) rfl v_12_389 rfl ⟨rfl, rfl⟩ ⟨Nat.le_of_ble_eq_true rfl, Nat.le_of_ble_eq_true rfl⟩ (Nat.le_of_ble_eq_true rfl) ⟨Nat.le_of_ble_eq_true rfl, Nat.le_of_ble_eq_true rfl⟩ dX12_readNot_18 rfl (st := [.ref x]) (fun x_36 I_37 J_38 h_39 => ?_)
    obtain ⟨hUI_37, hFI_37, hGJ_38, rx_36, ex_36⟩ := h_39
    have hF_40 := fq_tr hF_19 hFI_37 (by decide)
    have hG_41 := fq_tr hG_20 hGJ_38 (by decide)
    have hs_42 : NVq I_37 J_38 x b_4 = s_5 := (vq_fq wvqx hFI_37 hGJ_38 (by decide) (by decide)).trans hs_25
    have hs_43 : NWq I_37 J_38 x b_6 = s_7 := (zq_fq wzqx hFI_37 hGJ_38 (by decide) (by decide)).trans hs_26
    have hs_44 : MTq I_37 J_38 x b_8 = s_22 := (mq_fq wmqx hFI_37 hGJ_38 (by decide) (by decide)).trans hs_22
    have hs_45 : NRq I_37 J_38 x b_10 b_11 = s_23 := (nq_fq wnqx hFI_37 hGJ_38 (by decide) (by decide)).trans hs_23
    have hs_46 : QTq I_37 J_38 x = s_24 := (qq_fq wqqx hFI_37 hGJ_38 (by decide) (by decide)).trans hs_24
    obtain ⟨x_47, hx_47, rx_47, tx_47, ux_47⟩ := sa_b (lo := 1) (hi := 60) ex_36 hx_27 r_35 (by decide) (by decide)
    have r_48 := (show Rg 0 59 x_36 from by have q1 := ux_47; have q2 := r_35; unfold Rg at *; omega)
    refine h_putI C K hLx hkx f_12_386 p_12_50 dX12_readNot_21 (fun I_49 hI_49 => ?_)
    have hU_50 := iw_put W9 hUI_37 hI_49 (ro_o hkx (by decide)) (lo := 0) (hi := 59) (rfl) (r_48) rfl
    have hF_51 := fq_puto hF_40 hI_49 hkx (by decide) (by decide)
    have hs_52 : NVq I_49 J_38 x b_4 = s_5 := by rw [hI_49]; exact (vq_oI wvqx (ro_o hkx (by decide)) (by decide)).trans hs_42
    have hs_53 : NWq I_49 J_38 x b_6 = s_7 := by rw [hI_49]; exact (zq_oI wzqx (ro_o hkx (by decide)) (by decide)).trans hs_43
    have hs_54 : MTq I_49 J_38 x b_8 = s_22 := by rw [hI_49]; exact (mq_uIt wmqx (by decide)).trans hs_44
    have hs_55 : NRq I_49 J_38 x b_10 b_11 = s_23 := by rw [hI_49]; exact (nq_uIt wnqx (by decide)).trans hs_45
    have hs_56 : QTq I_49 J_38 x = s_24 := by rw [hI_49]; exact (qq_uIt wqqx (by decide)).trans hs_46
    refine g_iconst C (v := 1) dX12_readNot_24 (by decide) ?_
    exact g_zret (ty := .boolean) (r := 1) B K rfl (rfl) ⟨hU_50, hF_51, hG_41, rg_w rc_1 (by decide) (by decide), (by simp only [mNtK, evqx, hs_52, hs_5, ezqx, hs_53, hs_7, emqx, hs_54, hs_9, enqx, hs_55, hs_12, eqqx, hs_56, hs_13, hx_1, hx_2, hx_3, f_14, c_21, hx_27, hx_28, hx_29, f_30, h_31, hx_47, if_true, if_false, mqM_tp, mqM_size, mqM_limit, mqM_to, mqM_frm, mqM_kind, mqM_number, mqM_sign, mqM_word, MT_.w_tp, MT_.w_size, MT_.w_limit, MT_.w_to, MT_.w_frm, MT_.w_kind, MT_.w_number, MT_.w_sign, MT_.w_word, nqM_rd, nqM_rn, nqM_taped, nqM_mfault, nqM_mplace, nqM_told, nqM_hl, nqM_hd, NR_.w_rd, NR_.w_rn, NR_.w_taped, NR_.w_mfault, NR_.w_mplace, NR_.w_told, NR_.w_hl, NR_.w_hd, qqM_om, QT_.w_om, vqM_nv, NV_.w_nv, zqM_nw, NW_.w_nw]), (fun _ => (sz_m hx_1 hx_2 (kp_j hI_49 (by decide) hx_47) (kp_j hI_49 (by decide) (fq_at hFI_37 hLx hkx (by decide) (by decide) hx_29)) (kp_s hI_49) ⟨by have := tx_47; omega, by have := tx_47; omega, by have := tx_47; omega, by have := tx_47; omega⟩)), (kp_j hI_49 (by decide) (fq_at hFI_37 hLx hkx (by decide) (by decide) ex_15.2))⟩ dX12_readNot_25
  · skip
    have r_57 := (⟨(rx_15).1, (eq_rg (h_31) rc_0).2⟩ : Rg 0 0 x_15)
    refine g_iconst C (v := 0) dX12_readNot_7 (by decide) ?_
    exact g_zret (ty := .boolean) (r := 0) B K rfl (rfl) ⟨hUI_16, hF_19, hG_20, rg_w rc_0 (by decide) (by decide), (by simp only [mNtK, evqx, hs_25, hs_5, ezqx, hs_26, hs_7, emqx, hs_22, hs_9, enqx, hs_23, hs_12, eqqx, hs_24, hs_13, hx_1, hx_2, hx_3, f_14, c_21, hx_27, hx_28, hx_29, f_30, (eq_true h_31), if_true, if_false, mqM_tp, mqM_size, mqM_limit, mqM_to, mqM_frm, mqM_kind, mqM_number, mqM_sign, mqM_word, MT_.w_tp, MT_.w_size, MT_.w_limit, MT_.w_to, MT_.w_frm, MT_.w_kind, MT_.w_number, MT_.w_sign, MT_.w_word, nqM_rd, nqM_rn, nqM_taped, nqM_mfault, nqM_mplace, nqM_told, nqM_hl, nqM_hd, NR_.w_rd, NR_.w_rn, NR_.w_taped, NR_.w_mfault, NR_.w_mplace, NR_.w_told, NR_.w_hl, NR_.w_hd, qqM_om, QT_.w_om, vqM_nv, NV_.w_nv, zqM_nw, NW_.w_nw]), (fun q => absurd rfl q), ex_15.2⟩ dX12_readNot_8
set_option maxRecDepth 100000 in
set_option maxHeartbeats 8000000 in
theorem c_X12_readSaid_2 {l : Launch} {D : va_G} {cy : Nat → ClassId} {L : List Nat} {κ ln : Nat → Nat} {R : Nat → Nat → Option Nat} {I : Nat → Nat → Int32} {J : Nat → Nat → Int64} {ow : Nat → Nat × Nat} (W9 : ∀ a ∈ L, Shp L κ ln R ow a) {x : Nat} (hLx : x ∈ L) (hkx : κ x = 12) (hU : Iw L κ R ow I) (hn : (I x 47).toInt ≤ 2 * (I x 48).toInt) (hwi : I x 49 = 2) : CtI l yX12_readSaid cX12_readSaid 4 (some .boolean) { frames := 27, cells := 0, slots := 0, locals := 579 } D cy L κ ln R I J [.ref x] (fun r I2 J2 => Iw L κ R ow I2 ∧ Fq L κ ow [1205, 1206, 1207, 1208, 1209, 1210, 1211, 1213, 1247, 1248, 1249, 1250, 86600] I I2 ∧ Fq L κ ow [1212] J J2 ∧ Rg 0 1 r ∧ ((r, MTf R I2 J2 x, NRf R I2 J2 x, QTf R I2 J2 x) = mSaid 6 (NVf R I J x) (NWf R I J x) (MTf R I J x) (NRf R I J x) (QTf R I J x)) ∧ (¬ r = 0 → Sz_ x I I2 1) ∧ (I2 x 49 = 2)) := by
  obtain ⟨x_1, hx_1, rx_1⟩ := ex_getw (I := I) (a := x) (j := 47) (lo := 0) (hi := 60) hU.1 hLx (ro_o hkx (by decide)) rfl
  obtain ⟨x_2, hx_2, rx_2⟩ := ex_getw (I := I) (a := x) (j := 48) (lo := 0) (hi := 20) hU.1 hLx (ro_o hkx (by decide)) rfl
  rw [hx_1, hx_2] at hn
  obtain ⟨x_3, hx_3, rx_3⟩ := ex_getw (I := I) (a := x) (j := 50) (lo := 0) (hi := 59) hU.1 hLx (ro_o hkx (by decide)) rfl
  refine CtI.of (by decide +kernel) (Nat.le_of_ble_eq_true rfl) ?_
  intro p e s m below meth c B K
  have C := B.1
  have hF : Fq L κ ow [1205, 1206, 1207, 1208, 1209, 1210, 1211, 1213, 1247, 1248, 1249, 1250, 86600] I I := fq_rf
  have hG : Fq L κ ow [1212] J J := fq_rf
  obtain ⟨b_4, hb_4, hb_4L, hb_4k, hb_4n, hb_4o⟩ := shp_a (W9 x hLx) hkx 19 15 13 rfl (by decide)
  have evqx : ∀ I J, NVf R I J x = NVq I J x b_4 := fun I J => by simp only [NVf, rr_, Option.getD_some, hb_4]
  have wvqx : vqw_ L κ ow x b_4 := ⟨⟨hLx, hb_4L⟩, ⟨(ro_o hkx (by decide)), (ro_a hb_4k (by decide) hb_4o hkx rfl)⟩⟩
  obtain ⟨s_5, hs_5⟩ : ∃ z, NVq I J x b_4 = z := ⟨_, rfl⟩
  obtain ⟨b_6, hb_6, hb_6L, hb_6k, hb_6n, hb_6o⟩ := shp_a (W9 x hLx) hkx 14 14 389 rfl (by decide)
  have ezqx : ∀ I J, NWf R I J x = NWq I J x b_6 := fun I J => by simp only [NWf, rr_, Option.getD_some, hb_6]
  have wzqx : zqw_ L κ ow x b_6 := ⟨⟨hLx, hb_6L⟩, ⟨(ro_o hkx (by decide)), (ro_a hb_6k (by decide) hb_6o hkx rfl)⟩⟩
  obtain ⟨s_7, hs_7⟩ : ∃ z, NWq I J x b_6 = z := ⟨_, rfl⟩
  obtain ⟨b_8, hb_8, hb_8L, hb_8k, hb_8n, hb_8o⟩ := shp_a (W9 x hLx) hkx 1 14 940 rfl (by decide)
  have emqx : ∀ I J, MTf R I J x = MTq I J x b_8 := fun I J => by simp only [MTf, rr_, Option.getD_some, hb_8]
  have wmqx : mqw_ L κ ow x b_8 := ⟨⟨hLx, hb_8L⟩, ⟨(ro_o hkx (by decide)), (ro_a hb_8k (by decide) hb_8o hkx rfl)⟩⟩
  obtain ⟨s_9, hs_9⟩ : ∃ z, MTq I J x b_8 = z := ⟨_, rfl⟩
  obtain ⟨b_10, hb_10, hb_10L, hb_10k, hb_10n, hb_10o⟩ := shp_a (W9 x hLx) hkx 15 14 72 rfl (by decide)
  obtain ⟨b_11, hb_11, hb_11L, hb_11k, hb_11n, hb_11o⟩ := shp_a (W9 x hLx) hkx 20 15 13 rfl (by decide)
  have enqx : ∀ I J, NRf R I J x = NRq I J x b_10 b_11 := fun I J => by simp only [NRf, rr_, Option.getD_some, hb_10, hb_11]
  have wnqx : nqw_ L κ ow x b_10 b_11 := ⟨⟨hLx, hb_10L, hb_11L⟩, ⟨(ro_o hkx (by decide)), (ro_a hb_10k (by decide) hb_10o hkx rfl), (ro_a hb_11k (by decide) hb_11o hkx rfl)⟩⟩
  obtain ⟨s_12, hs_12⟩ : ∃ z, NRq I J x b_10 b_11 = z := ⟨_, rfl⟩
  have eqqx : ∀ I J, QTf R I J x = QTq I J x := fun I J => by simp only [QTf, rr_, Option.getD_some]
  have wqqx : qqw_ L κ ow x := ⟨hLx, (ro_o hkx (by decide))⟩
  obtain ⟨s_13, hs_13⟩ : ∃ z, QTq I J x = z := ⟨_, rfl⟩
  refine g_lo (is := [0]) (lo2 := [(0, .ref x)]) rfl ?_
  have l_10 : ∀ (n_10 : Nat) (v_14 : Int32) (rv_14 : Rg 0 1 v_14) (v_15 : Int32) (rv_15 : Rg 18 28 v_15) (v_16 : Int32) (rv_16 : Rg 0 60 v_16) (v_17 : Int32) (rv_17 : Rg 0 20 v_17) (v_18 : Int32) (rv_18 : Rg 0 59 v_18) (v_19 : Int32) (rv_19 : Rg 0 4 v_19) (q_20 : I x 47 = v_16) (q_21 : I x 48 = v_17) (q_22 : I x 49 = 2) (q_23 : I x 50 = v_18) (q_24 : I x 7 = v_19) (hq_25 : mSd1 (mBrK 5 s_5 s_7) (mNtK 5 s_5 s_7) s_5 s_7 v_14 (mww v_15 s_9) s_9 s_12 s_13 = mSaid 6 s_5 s_7 s_9 s_12 s_13) (hj_26 : v_16.toInt = x_1.toInt ∧ v_17.toInt = x_2.toInt) (hm_27 : 28 < (v_15 : Int32).toInt + (n_10 : Int)), WG p l e { frames := 27, cells := 0, slots := 0, locals := 579 } s m ([.ref x] : List Value).toArray below meth c 4 0 0 (MQ below (Qi_ D cy L κ ln R (fun r I2 J2 => Iw L κ R ow I2 ∧ Fq L κ ow [1205, 1206, 1207, 1208, 1209, 1210, 1211, 1213, 1247, 1248, 1249, 1250, 86600] I I2 ∧ Fq L κ ow [1212] J J2 ∧ Rg 0 1 r ∧ ((r, MTf R I2 J2 x, NRf R I2 J2 x, QTf R I2 J2 x) = mSaid 6 (NVf R I J x) (NWf R I J x) (MTf R I J x) (NRf R I J x) (QTf R I J x)) ∧ (¬ r = 0 → Sz_ x I I2 1) ∧ (I2 x 49 = 2))) ([.ref x] : List Value).toArray s 0 0 (Al_ L)) D cy (Al_ L) s.heap L κ ln R I J 10 [(0, .ref x), (1, .int v_14), (2, .int v_15)] [] := by
    intro n_10
    induction n_10 with
    | zero =>
      intro v_14 rv_14 v_15 rv_15 v_16 rv_16 v_17 rv_17 v_18 rv_18 v_19 rv_19 q_20 q_21 q_22 q_23 q_24 hq_25 hj_26 hm_27
      exact ms_0 rv_15 hm_27
    | succ n_10 ih_10 =>
      intro v_14 rv_14 v_15 rv_15 v_16 rv_16 v_17 rv_17 v_18 rv_18 v_19 rv_19 q_20 q_21 q_22 q_23 q_24 hq_25 hj_26 hm_27
      have hQ_28 := hq_25.symm
      have u_29 := mww_eq (w := v_15) (m := s_9) (rg_w rv_15 (by decide) (by decide))
      refine g_iload_n C 2 dX12_readSaid_10 rfl rfl ?_
      refine g_bipush C (v := 27) dX12_readSaid_11 (by decide) ?_
      refine g_icmp_gt C (tgt := 30) dX12_readSaid_13 (by decide) (fun h_30 => ?_) (fun h_30 => ?_)
      · skip
        have r_31 := lt_r (lo := 28) (h_30) rc_27 rv_15 (by decide)
        refine g_iload_n C 1 dX12_readSaid_30 rfl rfl ?_
        refine g_if_ne C (tgt := 46) dX12_readSaid_31 (by decide) (fun h_32 => ?_) (fun h_32 => ?_)
        · skip
          have n_33 : ¬ v_14 = 0 := h_32
          have r_34 := ne_lo (lo := 1) n_33 rv_14 rc_0 rfl (by decide)
          refine g_aload_n C 0 dX12_readSaid_46 rfl rfl ?_
          have f_35 : s_13.om = v_17 := (congrArg QT_.om hs_13).symm.trans q_21
          refine g_getI C K hLx hkx f_12_395 (v := v_17) q_21 dX12_readSaid_47 ?_
          refine g_bipush C (v := 20) dX12_readSaid_50 (by decide) ?_
          refine g_icmp_eq C (tgt := 64) dX12_readSaid_52 (by decide) (fun h_36 => ?_) (fun h_36 => ?_)
          · skip
            have r_37 := (⟨(eq_rg (h_36) rc_20).1, (rv_17).2⟩ : Rg 20 20 v_17)
            refine g_aload_n C 0 dX12_readSaid_64 rfl rfl ?_
            refine g_iconst C (v := 4) dX12_readSaid_65 (by decide) ?_
            refine g_callVI C K (c_X12_bad W9 hLx hkx 4 (rg_w rc_4 (by decide) (by decide)) hU) hLx hkx (by decide) rfl v_12_146 rfl ⟨rfl, rfl⟩ ⟨Nat.le_of_ble_eq_true rfl, Nat.le_of_ble_eq_true rfl⟩ (Nat.le_of_ble_eq_true rfl) ⟨Nat.le_of_ble_eq_true rfl, Nat.le_of_ble_eq_true rfl⟩ dX12_readSaid_66 rfl (st := []) (fun x_38 I_39 J_40 h_41 => ?_)
            obtain ⟨hUI_39, hFI_39, hGJ_40, rx_38, fx_38⟩ := h_41
            have hF_42 := fq_tr hF hFI_39 (by decide)
            have hG_43 := fq_tr hG hGJ_40 (by decide)
            obtain ⟨s_45, hs_45⟩ : ∃ z, MTq I_39 J_40 x b_8 = z := ⟨_, rfl⟩
            obtain ⟨s_46, hs_46⟩ : ∃ z, NRq I_39 J_40 x b_10 b_11 = z := ⟨_, rfl⟩
            have c_44 : mBad (4) (s_9) (s_12) = (x_38, s_45, s_46) := by have q := fx_38; simp only [emqx, enqx, hs_9, hs_12, hs_45, hs_46] at q; exact q.symm
            have hs_47 : NVq I_39 J_40 x b_4 = s_5 := (vq_fq wvqx hFI_39 hGJ_40 (by decide) (by decide)).trans hs_5
            have hs_48 : NWq I_39 J_40 x b_6 = s_7 := (zq_fq wzqx hFI_39 hGJ_40 (by decide) (by decide)).trans hs_7
            have hs_49 : QTq I_39 J_40 x = s_13 := (qq_fq wqqx hFI_39 hGJ_40 (by decide) (by decide)).trans hs_13
            exact g_zret (ty := .boolean) (r := x_38) B K rfl (nar_z (rg_w rx_38 (by decide) (by decide))) ⟨hUI_39, hF_42, hG_43, rg_w rx_38 (by decide) (by decide), (by (try simp only [h_30, h_32, f_35, (eq_true h_36), c_44, if_true, if_false, mqM_tp, mqM_size, mqM_limit, mqM_to, mqM_frm, mqM_kind, mqM_number, mqM_sign, mqM_word, MT_.w_tp, MT_.w_size, MT_.w_limit, MT_.w_to, MT_.w_frm, MT_.w_kind, MT_.w_number, MT_.w_sign, MT_.w_word, nqM_rd, nqM_rn, nqM_taped, nqM_mfault, nqM_mplace, nqM_told, nqM_hl, nqM_hd, NR_.w_rd, NR_.w_rn, NR_.w_taped, NR_.w_mfault, NR_.w_mplace, NR_.w_told, NR_.w_hl, NR_.w_hd, qqM_om, QT_.w_om, vqM_nv, NV_.w_nv, zqM_nw, NW_.w_nw] at hQ_28); (try simp only [h_30, h_32, f_35, (eq_true h_36), c_44, if_true, if_false, mqM_tp, mqM_size, mqM_limit, mqM_to, mqM_frm, mqM_kind, mqM_number, mqM_sign, mqM_word, MT_.w_tp, MT_.w_size, MT_.w_limit, MT_.w_to, MT_.w_frm, MT_.w_kind, MT_.w_number, MT_.w_sign, MT_.w_word, nqM_rd, nqM_rn, nqM_taped, nqM_mfault, nqM_mplace, nqM_told, nqM_hl, nqM_hd, NR_.w_rd, NR_.w_rn, NR_.w_taped, NR_.w_mfault, NR_.w_mplace, NR_.w_told, NR_.w_hl, NR_.w_hd, qqM_om, QT_.w_om, vqM_nv, NV_.w_nv, zqM_nw, NW_.w_nw] at u_29); simp only [mSd0, mSd1, mSd2, mBadQ, evqx, hs_47, hs_5, ezqx, hs_48, hs_7, emqx, hs_45, hs_9, enqx, hs_46, hs_12, eqqx, hs_49, hs_13, hQ_28, u_29, h_30, h_32, f_35, (eq_true h_36), c_44, if_true, if_false, mqM_tp, mqM_size, mqM_limit, mqM_to, mqM_frm, mqM_kind, mqM_number, mqM_sign, mqM_word, MT_.w_tp, MT_.w_size, MT_.w_limit, MT_.w_to, MT_.w_frm, MT_.w_kind, MT_.w_number, MT_.w_sign, MT_.w_word, nqM_rd, nqM_rn, nqM_taped, nqM_mfault, nqM_mplace, nqM_told, nqM_hl, nqM_hd, NR_.w_rd, NR_.w_rn, NR_.w_taped, NR_.w_mfault, NR_.w_mplace, NR_.w_told, NR_.w_hl, NR_.w_hd, qqM_om, QT_.w_om, vqM_nv, NV_.w_nv, zqM_nw, NW_.w_nw]), (fun q => ne_no q rx_38 rc_0), (fq_at hFI_39 hLx hkx (by decide) (by decide) q_22)⟩ dX12_readSaid_69
          · skip
            have n_50 : ¬ v_17 = 20 := h_36
            have r_51 := ne_hi (hi := 19) n_50 rv_17 rc_20 rfl (by decide)
            refine g_aload_n C 0 dX12_readSaid_55 rfl rfl ?_
            refine g_getI C K hLx hkx f_12_398 (v := 2) q_22 dX12_readSaid_56 ?_
            refine g_bipush C (v := 8) dX12_readSaid_59 (by decide) ?_
            refine g_icmp_ne C (tgt := 70) dX12_readSaid_61 (by decide) (fun h_52 => ?_) (fun h_52 => ?_)
            · skip
              refine g_aload_n C 0 dX12_readSaid_70 rfl rfl ?_
              refine g_dup C dX12_readSaid_71 rfl ?_
              refine g_getI C K hLx hkx f_12_395 (v := v_17) q_21 dX12_readSaid_72 ?_
              refine g_iconst C (v := 1) dX12_readSaid_75 (by decide) ?_
              obtain ⟨x_53, hx_53, rx_53, tx_53⟩ := ex_add 1 20 r_51 rc_1 (by decide) (by decide) (by decide) (by decide)
              refine g_iadd C (v := x_53) dX12_readSaid_76 hx_53 ?_
              refine h_putI C K hLx hkx f_12_395 p_12_48 dX12_readSaid_77 (fun I_54 hI_54 => ?_)
              have hU_55 := iw_put W9 hU hI_54 (ro_o hkx (by decide)) (lo := 0) (hi := 20) (rfl) (rg_w rx_53 (by decide) (by decide)) rfl
              have hF_56 := fq_puto hF hI_54 hkx (by decide) (by decide)
              have hs_57 : NVq I_54 J x b_4 = s_5 := by rw [hI_54]; exact (vq_oI wvqx (ro_o hkx (by decide)) (by decide)).trans hs_5
              have hs_58 : NWq I_54 J x b_6 = s_7 := by rw [hI_54]; exact (zq_oI wzqx (ro_o hkx (by decide)) (by decide)).trans hs_7
              have hs_59 : MTq I_54 J x b_8 = s_9 := by rw [hI_54]; exact (mq_uIt wmqx (by decide)).trans hs_9
              have hs_60 : NRq I_54 J x b_10 b_11 = s_12 := by rw [hI_54]; exact (nq_uIt wnqx (by decide)).trans hs_12
              have hs_61 : QTq I_54 J x = (QT_.w_om s_13 (x_53)) := by rw [hI_54]; exact ((qq_om wqqx).trans (congrArg (fun z : QT_ => QT_.w_om z (x_53)) hs_13)).trans rfl
              refine g_aload_n C 0 dX12_readSaid_80 rfl rfl ?_
              refine g_dup C dX12_readSaid_81 rfl ?_
              refine g_getI C K hLx hkx f_12_398 (v := 2) (kp_j hI_54 (by decide) q_22) dX12_readSaid_82 ?_
              refine g_iconst C (v := 1) dX12_readSaid_85 (by decide) ?_
              refine g_iadd C (v := 3) dX12_readSaid_86 (by decide) ?_
              refine h_putI C K hLx hkx f_12_398 p_12_49 dX12_readSaid_87 (fun I_62 hI_62 => ?_)
              have hU_63 := iw_put W9 hU_55 hI_62 (ro_o hkx (by decide)) (lo := 0) (hi := 8) (rfl) (rg_w rc_3 (by decide) (by decide)) rfl
              have hF_64 := fq_puto hF_56 hI_62 hkx (by decide) (by decide)
              have hs_65 : NVq I_62 J x b_4 = s_5 := by rw [hI_62]; exact (vq_oI wvqx (ro_o hkx (by decide)) (by decide)).trans hs_57
              have hs_66 : NWq I_62 J x b_6 = s_7 := by rw [hI_62]; exact (zq_oI wzqx (ro_o hkx (by decide)) (by decide)).trans hs_58
              have hs_67 : MTq I_62 J x b_8 = s_9 := by rw [hI_62]; exact (mq_uIt wmqx (by decide)).trans hs_59
              have hs_68 : NRq I_62 J x b_10 b_11 = s_12 := by rw [hI_62]; exact (nq_uIt wnqx (by decide)).trans hs_60
              have hs_69 : QTq I_62 J x = (QT_.w_om s_13 (x_53)) := by rw [hI_62]; exact (qq_uIt wqqx (by decide)).trans hs_61
              refine g_aload_n C 0 dX12_readSaid_90 rfl rfl ?_
              refine g_callVV C K (c_X12_go W9 hLx hkx   hU_63) hLx hkx (by decide) rfl v_12_156 rfl ⟨rfl, rfl⟩ ⟨Nat.le_of_ble_eq_true rfl, Nat.le_of_ble_eq_true rfl⟩ (Nat.le_of_ble_eq_true rfl) ⟨Nat.le_of_ble_eq_true rfl, Nat.le_of_ble_eq_true rfl⟩ dX12_readSaid_91 rfl (st := []) (fun I_71 J_72 h_73 => ?_)
              obtain ⟨hUI_71, hFI_71, hGJ_72, fx_70, ex_70⟩ := h_73
              have hF_74 := fq_tr hF_64 hFI_71 (by decide)
              have hG_75 := fq_tr hG hGJ_72 (by decide)
              obtain ⟨s_77, hs_77⟩ : ∃ z, MTq I_71 J_72 x b_8 = z := ⟨_, rfl⟩
              have c_76 : mGo (s_9) = s_77 := by have q := fx_70; simp only [emqx, hs_67, hs_77] at q; exact q.symm
              have hs_78 : NVq I_71 J_72 x b_4 = s_5 := (vq_fq wvqx hFI_71 hGJ_72 (by decide) (by decide)).trans hs_65
              have hs_79 : NWq I_71 J_72 x b_6 = s_7 := (zq_fq wzqx hFI_71 hGJ_72 (by decide) (by decide)).trans hs_66
              have hs_80 : NRq I_71 J_72 x b_10 b_11 = s_12 := (nq_fq wnqx hFI_71 hGJ_72 (by decide) (by decide)).trans hs_68
              have hs_81 : QTq I_71 J_72 x = (QT_.w_om s_13 (x_53)) := (qq_fq wqqx hFI_71 hGJ_72 (by decide) (by decide)).trans hs_69
              refine g_iconst C (v := 1) dX12_readSaid_94 (by decide) ?_
              refine g_istore_n C dX12_readSaid_95 rfl (by decide) (lo2 := [(3, .int 1), (0, .ref x), (1, .int v_14), (2, .int v_15)]) rfl ?_
              refine g_iload_n C 2 dX12_readSaid_96 rfl rfl ?_
              refine g_if_eq C (tgt := 108) dX12_readSaid_97 (by decide) (fun h_82 => ?_) (fun h_82 => ?_)
              · skip
                exact eq_no (h_82) r_34 rc_0 (by decide)
              · skip
                have n_83 : ¬ v_14 = 0 := h_82
                refine g_aload_n C 1 dX12_readSaid_100 rfl rfl ?_
                refine g_callVI C K (c_X12_readBracket_3 W9 hLx hkx   hUI_71  (by rw [(fq_at hFI_71 hLx hkx (by decide) (by decide) (kp_j hI_62 (by decide) (kp_j hI_54 (by decide) q_20))), (fq_at hFI_71 hLx hkx (by decide) (by decide) (kp_j hI_62 (by decide) (kp_s hI_54)))]; have := (ti_k tx_53 rc_1); omega) ((fq_at hFI_71 hLx hkx (by decide) (by decide) (kp_s hI_62)))) hLx hkx (by decide) rfl v_12_401 rfl ⟨rfl, rfl⟩ ⟨Nat.le_of_ble_eq_true rfl, Nat.le_of_ble_eq_true rfl⟩ (Nat.le_of_ble_eq_true rfl) ⟨Nat.le_of_ble_eq_true rfl, Nat.le_of_ble_eq_true rfl⟩ dX12_readSaid_101 rfl (st := []) (fun x_84 I_85 J_86 h_87 => ?_)
                obtain ⟨hUI_85, hFI_85, hGJ_86, rx_84, fx_84, ex_84⟩ := h_87
                have hF_88 := fq_tr hF_74 hFI_85 (by decide)
                have hG_89 := fq_tr hG_75 hGJ_86 (by decide)
                obtain ⟨s_91, hs_91⟩ : ∃ z, MTq I_85 J_86 x b_8 = z := ⟨_, rfl⟩
                obtain ⟨s_92, hs_92⟩ : ∃ z, NRq I_85 J_86 x b_10 b_11 = z := ⟨_, rfl⟩
                obtain ⟨s_93, hs_93⟩ : ∃ z, QTq I_85 J_86 x = z := ⟨_, rfl⟩
                have c_90 : mBrK 5 (s_5) (s_7) (s_77) (s_12) ((QT_.w_om s_13 (x_53))) = (x_84, s_91, s_92, s_93) := by have q := fx_84; simp only [evqx, ezqx, emqx, enqx, eqqx, hs_78, hs_79, hs_77, hs_80, hs_81, hs_91, hs_92, hs_93] at q; exact q.symm
                have hs_94 : NVq I_85 J_86 x b_4 = s_5 := (vq_fq wvqx hFI_85 hGJ_86 (by decide) (by decide)).trans hs_78
                have hs_95 : NWq I_85 J_86 x b_6 = s_7 := (zq_fq wzqx hFI_85 hGJ_86 (by decide) (by decide)).trans hs_79
                obtain ⟨x_96, hx_96, rx_96⟩ := ex_getw (I := I_85) (a := x) (j := 47) (lo := 0) (hi := 60) hUI_85.1 hLx (ro_o hkx (by decide)) rfl
                obtain ⟨x_97, hx_97, rx_97⟩ := ex_getw (I := I_85) (a := x) (j := 50) (lo := 0) (hi := 59) hUI_85.1 hLx (ro_o hkx (by decide)) rfl
                obtain ⟨x_98, hx_98, rx_98⟩ := ex_getw (I := I_85) (a := x) (j := 48) (lo := 0) (hi := 20) hUI_85.1 hLx (ro_o hkx (by decide)) rfl
                have f_99 : s_93.om = x_98 := (congrArg QT_.om hs_93).symm.trans hx_98
                refine g_istore_n C dX12_readSaid_104 rfl (by decide) (lo2 := [(3, .int x_84), (0, .ref x), (1, .int v_14), (2, .int v_15)]) rfl ?_
                refine g_goto C (tgt := 166) dX12_readSaid_105 (by decide) ?_
                refine g_aload_n C 1 dX12_readSaid_166 rfl rfl ?_
                refine g_dup C dX12_readSaid_167 rfl ?_
                refine g_getI C K hLx hkx f_12_398 (v := 3) ex_84.2 dX12_readSaid_168 ?_
                refine g_iconst C (v := 1) dX12_readSaid_171 (by decide) ?_
                refine g_isub C (v := 2) dX12_readSaid_172 (by decide) ?_
                refine h_putI C K hLx hkx f_12_398 p_12_49 dX12_readSaid_173 (fun I_100 hI_100 => ?_)
                have hU_101 := iw_put W9 hUI_85 hI_100 (ro_o hkx (by decide)) (lo := 0) (hi := 8) (rfl) (rg_w rc_2 (by decide) (by decide)) rfl
                have hF_102 := fq_puto hF_88 hI_100 hkx (by decide) (by decide)
                have hs_103 : NVq I_100 J_86 x b_4 = s_5 := by rw [hI_100]; exact (vq_oI wvqx (ro_o hkx (by decide)) (by decide)).trans hs_94
                have hs_104 : NWq I_100 J_86 x b_6 = s_7 := by rw [hI_100]; exact (zq_oI wzqx (ro_o hkx (by decide)) (by decide)).trans hs_95
                have hs_105 : MTq I_100 J_86 x b_8 = s_91 := by rw [hI_100]; exact (mq_uIt wmqx (by decide)).trans hs_91
                have hs_106 : NRq I_100 J_86 x b_10 b_11 = s_92 := by rw [hI_100]; exact (nq_uIt wnqx (by decide)).trans hs_92
                have hs_107 : QTq I_100 J_86 x = s_93 := by rw [hI_100]; exact (qq_uIt wqqx (by decide)).trans hs_93
                refine g_iload_n C 0 dX12_readSaid_176 rfl rfl ?_
                exact g_zret (ty := .boolean) (r := x_84) B K rfl (nar_z (rx_84)) ⟨hU_101, hF_102, hG_89, rx_84, (by (try simp only [h_30, h_32, f_35, h_36, h_52, hx_53, c_76, h_82, hx_96, hx_97, hx_98, f_99, if_true, if_false, mqM_tp, mqM_size, mqM_limit, mqM_to, mqM_frm, mqM_kind, mqM_number, mqM_sign, mqM_word, MT_.w_tp, MT_.w_size, MT_.w_limit, MT_.w_to, MT_.w_frm, MT_.w_kind, MT_.w_number, MT_.w_sign, MT_.w_word, nqM_rd, nqM_rn, nqM_taped, nqM_mfault, nqM_mplace, nqM_told, nqM_hl, nqM_hd, NR_.w_rd, NR_.w_rn, NR_.w_taped, NR_.w_mfault, NR_.w_mplace, NR_.w_told, NR_.w_hl, NR_.w_hd, qqM_om, QT_.w_om, vqM_nv, NV_.w_nv, zqM_nw, NW_.w_nw] at hQ_28); (try simp only [h_30, h_32, f_35, h_36, h_52, hx_53, c_76, h_82, hx_96, hx_97, hx_98, f_99, if_true, if_false, mqM_tp, mqM_size, mqM_limit, mqM_to, mqM_frm, mqM_kind, mqM_number, mqM_sign, mqM_word, MT_.w_tp, MT_.w_size, MT_.w_limit, MT_.w_to, MT_.w_frm, MT_.w_kind, MT_.w_number, MT_.w_sign, MT_.w_word, nqM_rd, nqM_rn, nqM_taped, nqM_mfault, nqM_mplace, nqM_told, nqM_hl, nqM_hd, NR_.w_rd, NR_.w_rn, NR_.w_taped, NR_.w_mfault, NR_.w_mplace, NR_.w_told, NR_.w_hl, NR_.w_hd, qqM_om, QT_.w_om, vqM_nv, NV_.w_nv, zqM_nw, NW_.w_nw] at u_29); (try simp only [h_30, h_32, f_35, h_36, h_52, hx_53, c_76, h_82, hx_96, hx_97, hx_98, f_99, if_true, if_false, mqM_tp, mqM_size, mqM_limit, mqM_to, mqM_frm, mqM_kind, mqM_number, mqM_sign, mqM_word, MT_.w_tp, MT_.w_size, MT_.w_limit, MT_.w_to, MT_.w_frm, MT_.w_kind, MT_.w_number, MT_.w_sign, MT_.w_word, nqM_rd, nqM_rn, nqM_taped, nqM_mfault, nqM_mplace, nqM_told, nqM_hl, nqM_hd, NR_.w_rd, NR_.w_rn, NR_.w_taped, NR_.w_mfault, NR_.w_mplace, NR_.w_told, NR_.w_hl, NR_.w_hd, qqM_om, QT_.w_om, vqM_nv, NV_.w_nv, zqM_nw, NW_.w_nw] at c_90); simp only [mSd0, mSd1, mSd2, mBadQ, evqx, hs_103, hs_5, ezqx, hs_104, hs_7, emqx, hs_105, hs_9, enqx, hs_106, hs_12, eqqx, hs_107, hs_13, hQ_28, u_29, h_30, h_32, f_35, h_36, h_52, hx_53, c_76, h_82, c_90, hx_96, hx_97, hx_98, f_99, if_true, if_false, mqM_tp, mqM_size, mqM_limit, mqM_to, mqM_frm, mqM_kind, mqM_number, mqM_sign, mqM_word, MT_.w_tp, MT_.w_size, MT_.w_limit, MT_.w_to, MT_.w_frm, MT_.w_kind, MT_.w_number, MT_.w_sign, MT_.w_word, nqM_rd, nqM_rn, nqM_taped, nqM_mfault, nqM_mplace, nqM_told, nqM_hl, nqM_hd, NR_.w_rd, NR_.w_rn, NR_.w_taped, NR_.w_mfault, NR_.w_mplace, NR_.w_told, NR_.w_hl, NR_.w_hd, qqM_om, QT_.w_om, vqM_nv, NV_.w_nv, zqM_nw, NW_.w_nw]), (fun hq => by have n_108 : ¬ x_84 = 0 := hq; have r_109 := ne_lo (lo := 1) n_108 rx_84 rc_0 rfl (by decide); have f_110 := sz_v (fq_at hFI_71 hLx hkx (by decide) (by decide) (kp_j hI_62 (by decide) (kp_j hI_54 (by decide) q_20))) (fq_at hFI_71 hLx hkx (by decide) (by decide) (kp_j hI_62 (by decide) (kp_s hI_54))) hx_96 hx_98 hx_97 (ex_84.1 n_108); have f_111 := (ti_k tx_53 rc_1); exact (sz_m hx_1 hx_2 (kp_j hI_100 (by decide) hx_96) (kp_j hI_100 (by decide) hx_98) (kp_j hI_100 (by decide) hx_97) ⟨by omega, by omega, by omega, by omega⟩)), (kp_s hI_100)⟩ dX12_readSaid_177
            · skip
              exact absurd (h_52) (by decide)
        · skip
          have r_112 := (⟨(rv_14).1, (eq_rg (h_32) rc_0).2⟩ : Rg 0 0 v_14)
          refine g_iload_n C 2 dX12_readSaid_34 rfl rfl ?_
          refine g_bipush C (v := 27) dX12_readSaid_35 (by decide) ?_
          refine g_icmp_le C (tgt := 46) dX12_readSaid_37 (by decide) (fun h_113 => ?_) (fun h_113 => ?_)
          · skip
            have r_114 := le_l (h_113) r_31 rc_27
            exact rg_no r_114 (by decide)
          · skip
            refine g_aload_n C 0 dX12_readSaid_40 rfl rfl ?_
            refine g_iconst C (v := 1) dX12_readSaid_41 (by decide) ?_
            refine g_callVI C K (c_X12_bad W9 hLx hkx 1 (rg_w rc_1 (by decide) (by decide)) hU) hLx hkx (by decide) rfl v_12_146 rfl ⟨rfl, rfl⟩ ⟨Nat.le_of_ble_eq_true rfl, Nat.le_of_ble_eq_true rfl⟩ (Nat.le_of_ble_eq_true rfl) ⟨Nat.le_of_ble_eq_true rfl, Nat.le_of_ble_eq_true rfl⟩ dX12_readSaid_42 rfl (st := []) (fun x_115 I_116 J_117 h_118 => ?_)
            obtain ⟨hUI_116, hFI_116, hGJ_117, rx_115, fx_115⟩ := h_118
            have hF_119 := fq_tr hF hFI_116 (by decide)
            have hG_120 := fq_tr hG hGJ_117 (by decide)
            obtain ⟨s_122, hs_122⟩ : ∃ z, MTq I_116 J_117 x b_8 = z := ⟨_, rfl⟩
            obtain ⟨s_123, hs_123⟩ : ∃ z, NRq I_116 J_117 x b_10 b_11 = z := ⟨_, rfl⟩
            have c_121 : mBad (1) (s_9) (s_12) = (x_115, s_122, s_123) := by have q := fx_115; simp only [emqx, enqx, hs_9, hs_12, hs_122, hs_123] at q; exact q.symm
            have hs_124 : NVq I_116 J_117 x b_4 = s_5 := (vq_fq wvqx hFI_116 hGJ_117 (by decide) (by decide)).trans hs_5
            have hs_125 : NWq I_116 J_117 x b_6 = s_7 := (zq_fq wzqx hFI_116 hGJ_117 (by decide) (by decide)).trans hs_7
            have hs_126 : QTq I_116 J_117 x = s_13 := (qq_fq wqqx hFI_116 hGJ_117 (by decide) (by decide)).trans hs_13
            exact g_zret (ty := .boolean) (r := x_115) B K rfl (nar_z (rg_w rx_115 (by decide) (by decide))) ⟨hUI_116, hF_119, hG_120, rg_w rx_115 (by decide) (by decide), (by (try simp only [h_30, (eq_true h_32), h_113, (nle h_113), c_121, if_true, if_false, mqM_tp, mqM_size, mqM_limit, mqM_to, mqM_frm, mqM_kind, mqM_number, mqM_sign, mqM_word, MT_.w_tp, MT_.w_size, MT_.w_limit, MT_.w_to, MT_.w_frm, MT_.w_kind, MT_.w_number, MT_.w_sign, MT_.w_word, nqM_rd, nqM_rn, nqM_taped, nqM_mfault, nqM_mplace, nqM_told, nqM_hl, nqM_hd, NR_.w_rd, NR_.w_rn, NR_.w_taped, NR_.w_mfault, NR_.w_mplace, NR_.w_told, NR_.w_hl, NR_.w_hd, qqM_om, QT_.w_om, vqM_nv, NV_.w_nv, zqM_nw, NW_.w_nw] at hQ_28); (try simp only [h_30, (eq_true h_32), h_113, (nle h_113), c_121, if_true, if_false, mqM_tp, mqM_size, mqM_limit, mqM_to, mqM_frm, mqM_kind, mqM_number, mqM_sign, mqM_word, MT_.w_tp, MT_.w_size, MT_.w_limit, MT_.w_to, MT_.w_frm, MT_.w_kind, MT_.w_number, MT_.w_sign, MT_.w_word, nqM_rd, nqM_rn, nqM_taped, nqM_mfault, nqM_mplace, nqM_told, nqM_hl, nqM_hd, NR_.w_rd, NR_.w_rn, NR_.w_taped, NR_.w_mfault, NR_.w_mplace, NR_.w_told, NR_.w_hl, NR_.w_hd, qqM_om, QT_.w_om, vqM_nv, NV_.w_nv, zqM_nw, NW_.w_nw] at u_29); simp only [mSd0, mSd1, mSd2, mBadQ, evqx, hs_124, hs_5, ezqx, hs_125, hs_7, emqx, hs_122, hs_9, enqx, hs_123, hs_12, eqqx, hs_126, hs_13, hQ_28, u_29, h_30, (eq_true h_32), h_113, (nle h_113), c_121, if_true, if_false, mqM_tp, mqM_size, mqM_limit, mqM_to, mqM_frm, mqM_kind, mqM_number, mqM_sign, mqM_word, MT_.w_tp, MT_.w_size, MT_.w_limit, MT_.w_to, MT_.w_frm, MT_.w_kind, MT_.w_number, MT_.w_sign, MT_.w_word, nqM_rd, nqM_rn, nqM_taped, nqM_mfault, nqM_mplace, nqM_told, nqM_hl, nqM_hd, NR_.w_rd, NR_.w_rn, NR_.w_taped, NR_.w_mfault, NR_.w_mplace, NR_.w_told, NR_.w_hl, NR_.w_hd, qqM_om, QT_.w_om, vqM_nv, NV_.w_nv, zqM_nw, NW_.w_nw]), (fun q => ne_no q rx_115 rc_0), (fq_at hFI_116 hLx hkx (by decide) (by decide) q_22)⟩ dX12_readSaid_45
      · skip
        have r_127 := le_l (nlt h_30) rv_15 rc_27
        refine g_aload_n C 0 dX12_readSaid_16 rfl rfl ?_
        refine g_iload_n C 2 dX12_readSaid_17 rfl rfl ?_
        refine g_callVI C K (c_X12_isWord W9 hLx hkx v_15 (rg_w r_127 (by decide) (by decide)) hU) hLx hkx (by decide) rfl v_12_191 rfl ⟨rfl, rfl⟩ ⟨Nat.le_of_ble_eq_true rfl, Nat.le_of_ble_eq_true rfl⟩ (Nat.le_of_ble_eq_true rfl) ⟨Nat.le_of_ble_eq_true rfl, Nat.le_of_ble_eq_true rfl⟩ dX12_readSaid_18 rfl (st := []) (fun x_128 I_129 J_130 h_131 => ?_)
        obtain ⟨rfl, rfl, rx_128, fx_128⟩ := h_131
        have c_132 : mIsWord (v_15) (s_9) = x_128 := by have q := fx_128; simp only [emqx, hs_9] at q; exact q.symm
        refine g_if_ne C (tgt := 30) dX12_readSaid_21 (by decide) (fun h_133 => ?_) (fun h_133 => ?_)
        · skip
          have n_134 : ¬ x_128 = 0 := h_133
          have r_135 := ne_lo (lo := 1) n_134 rx_128 rc_0 rfl (by decide)
          refine g_iload_n C 1 dX12_readSaid_30 rfl rfl ?_
          refine g_if_ne C (tgt := 46) dX12_readSaid_31 (by decide) (fun h_136 => ?_) (fun h_136 => ?_)
          · skip
            have n_137 : ¬ v_14 = 0 := h_136
            have r_138 := ne_lo (lo := 1) n_137 rv_14 rc_0 rfl (by decide)
            refine g_aload_n C 0 dX12_readSaid_46 rfl rfl ?_
            have f_139 : s_13.om = v_17 := (congrArg QT_.om hs_13).symm.trans q_21
            refine g_getI C K hLx hkx f_12_395 (v := v_17) q_21 dX12_readSaid_47 ?_
            refine g_bipush C (v := 20) dX12_readSaid_50 (by decide) ?_
            refine g_icmp_eq C (tgt := 64) dX12_readSaid_52 (by decide) (fun h_140 => ?_) (fun h_140 => ?_)
            · skip
              have r_141 := (⟨(eq_rg (h_140) rc_20).1, (rv_17).2⟩ : Rg 20 20 v_17)
              refine g_aload_n C 0 dX12_readSaid_64 rfl rfl ?_
              refine g_iconst C (v := 4) dX12_readSaid_65 (by decide) ?_
              refine g_callVI C K (c_X12_bad W9 hLx hkx 4 (rg_w rc_4 (by decide) (by decide)) hU) hLx hkx (by decide) rfl v_12_146 rfl ⟨rfl, rfl⟩ ⟨Nat.le_of_ble_eq_true rfl, Nat.le_of_ble_eq_true rfl⟩ (Nat.le_of_ble_eq_true rfl) ⟨Nat.le_of_ble_eq_true rfl, Nat.le_of_ble_eq_true rfl⟩ dX12_readSaid_66 rfl (st := []) (fun x_142 I_143 J_144 h_145 => ?_)
              obtain ⟨hUI_143, hFI_143, hGJ_144, rx_142, fx_142⟩ := h_145
              have hF_146 := fq_tr hF hFI_143 (by decide)
              have hG_147 := fq_tr hG hGJ_144 (by decide)
              obtain ⟨s_149, hs_149⟩ : ∃ z, MTq I_143 J_144 x b_8 = z := ⟨_, rfl⟩
              obtain ⟨s_150, hs_150⟩ : ∃ z, NRq I_143 J_144 x b_10 b_11 = z := ⟨_, rfl⟩
              have c_148 : mBad (4) (s_9) (s_12) = (x_142, s_149, s_150) := by have q := fx_142; simp only [emqx, enqx, hs_9, hs_12, hs_149, hs_150] at q; exact q.symm
              have hs_151 : NVq I_143 J_144 x b_4 = s_5 := (vq_fq wvqx hFI_143 hGJ_144 (by decide) (by decide)).trans hs_5
              have hs_152 : NWq I_143 J_144 x b_6 = s_7 := (zq_fq wzqx hFI_143 hGJ_144 (by decide) (by decide)).trans hs_7
              have hs_153 : QTq I_143 J_144 x = s_13 := (qq_fq wqqx hFI_143 hGJ_144 (by decide) (by decide)).trans hs_13
              exact g_zret (ty := .boolean) (r := x_142) B K rfl (nar_z (rg_w rx_142 (by decide) (by decide))) ⟨hUI_143, hF_146, hG_147, rg_w rx_142 (by decide) (by decide), (by (try simp only [h_30, (nlt h_30), c_132, h_133, h_136, f_139, (eq_true h_140), c_148, if_true, if_false, mqM_tp, mqM_size, mqM_limit, mqM_to, mqM_frm, mqM_kind, mqM_number, mqM_sign, mqM_word, MT_.w_tp, MT_.w_size, MT_.w_limit, MT_.w_to, MT_.w_frm, MT_.w_kind, MT_.w_number, MT_.w_sign, MT_.w_word, nqM_rd, nqM_rn, nqM_taped, nqM_mfault, nqM_mplace, nqM_told, nqM_hl, nqM_hd, NR_.w_rd, NR_.w_rn, NR_.w_taped, NR_.w_mfault, NR_.w_mplace, NR_.w_told, NR_.w_hl, NR_.w_hd, qqM_om, QT_.w_om, vqM_nv, NV_.w_nv, zqM_nw, NW_.w_nw] at hQ_28); (try simp only [h_30, (nlt h_30), c_132, h_133, h_136, f_139, (eq_true h_140), c_148, if_true, if_false, mqM_tp, mqM_size, mqM_limit, mqM_to, mqM_frm, mqM_kind, mqM_number, mqM_sign, mqM_word, MT_.w_tp, MT_.w_size, MT_.w_limit, MT_.w_to, MT_.w_frm, MT_.w_kind, MT_.w_number, MT_.w_sign, MT_.w_word, nqM_rd, nqM_rn, nqM_taped, nqM_mfault, nqM_mplace, nqM_told, nqM_hl, nqM_hd, NR_.w_rd, NR_.w_rn, NR_.w_taped, NR_.w_mfault, NR_.w_mplace, NR_.w_told, NR_.w_hl, NR_.w_hd, qqM_om, QT_.w_om, vqM_nv, NV_.w_nv, zqM_nw, NW_.w_nw] at u_29); simp only [mSd0, mSd1, mSd2, mBadQ, evqx, hs_151, hs_5, ezqx, hs_152, hs_7, emqx, hs_149, hs_9, enqx, hs_150, hs_12, eqqx, hs_153, hs_13, hQ_28, u_29, h_30, (nlt h_30), c_132, h_133, h_136, f_139, (eq_true h_140), c_148, if_true, if_false, mqM_tp, mqM_size, mqM_limit, mqM_to, mqM_frm, mqM_kind, mqM_number, mqM_sign, mqM_word, MT_.w_tp, MT_.w_size, MT_.w_limit, MT_.w_to, MT_.w_frm, MT_.w_kind, MT_.w_number, MT_.w_sign, MT_.w_word, nqM_rd, nqM_rn, nqM_taped, nqM_mfault, nqM_mplace, nqM_told, nqM_hl, nqM_hd, NR_.w_rd, NR_.w_rn, NR_.w_taped, NR_.w_mfault, NR_.w_mplace, NR_.w_told, NR_.w_hl, NR_.w_hd, qqM_om, QT_.w_om, vqM_nv, NV_.w_nv, zqM_nw, NW_.w_nw]), (fun q => ne_no q rx_142 rc_0), (fq_at hFI_143 hLx hkx (by decide) (by decide) q_22)⟩ dX12_readSaid_69
            · skip
              have n_154 : ¬ v_17 = 20 := h_140
              have r_155 := ne_hi (hi := 19) n_154 rv_17 rc_20 rfl (by decide)
              refine g_aload_n C 0 dX12_readSaid_55 rfl rfl ?_
              refine g_getI C K hLx hkx f_12_398 (v := 2) q_22 dX12_readSaid_56 ?_
              refine g_bipush C (v := 8) dX12_readSaid_59 (by decide) ?_
              refine g_icmp_ne C (tgt := 70) dX12_readSaid_61 (by decide) (fun h_156 => ?_) (fun h_156 => ?_)
              · skip
                refine g_aload_n C 0 dX12_readSaid_70 rfl rfl ?_
                refine g_dup C dX12_readSaid_71 rfl ?_
                refine g_getI C K hLx hkx f_12_395 (v := v_17) q_21 dX12_readSaid_72 ?_
                refine g_iconst C (v := 1) dX12_readSaid_75 (by decide) ?_
                obtain ⟨x_157, hx_157, rx_157, tx_157⟩ := ex_add 1 20 r_155 rc_1 (by decide) (by decide) (by decide) (by decide)
                refine g_iadd C (v := x_157) dX12_readSaid_76 hx_157 ?_
                refine h_putI C K hLx hkx f_12_395 p_12_48 dX12_readSaid_77 (fun I_158 hI_158 => ?_)
                have hU_159 := iw_put W9 hU hI_158 (ro_o hkx (by decide)) (lo := 0) (hi := 20) (rfl) (rg_w rx_157 (by decide) (by decide)) rfl
                have hF_160 := fq_puto hF hI_158 hkx (by decide) (by decide)
                have hs_161 : NVq I_158 J x b_4 = s_5 := by rw [hI_158]; exact (vq_oI wvqx (ro_o hkx (by decide)) (by decide)).trans hs_5
                have hs_162 : NWq I_158 J x b_6 = s_7 := by rw [hI_158]; exact (zq_oI wzqx (ro_o hkx (by decide)) (by decide)).trans hs_7
                have hs_163 : MTq I_158 J x b_8 = s_9 := by rw [hI_158]; exact (mq_uIt wmqx (by decide)).trans hs_9
                have hs_164 : NRq I_158 J x b_10 b_11 = s_12 := by rw [hI_158]; exact (nq_uIt wnqx (by decide)).trans hs_12
                have hs_165 : QTq I_158 J x = (QT_.w_om s_13 (x_157)) := by rw [hI_158]; exact ((qq_om wqqx).trans (congrArg (fun z : QT_ => QT_.w_om z (x_157)) hs_13)).trans rfl
                refine g_aload_n C 0 dX12_readSaid_80 rfl rfl ?_
                refine g_dup C dX12_readSaid_81 rfl ?_
                refine g_getI C K hLx hkx f_12_398 (v := 2) (kp_j hI_158 (by decide) q_22) dX12_readSaid_82 ?_
                refine g_iconst C (v := 1) dX12_readSaid_85 (by decide) ?_
                refine g_iadd C (v := 3) dX12_readSaid_86 (by decide) ?_
                refine h_putI C K hLx hkx f_12_398 p_12_49 dX12_readSaid_87 (fun I_166 hI_166 => ?_)
                have hU_167 := iw_put W9 hU_159 hI_166 (ro_o hkx (by decide)) (lo := 0) (hi := 8) (rfl) (rg_w rc_3 (by decide) (by decide)) rfl
                have hF_168 := fq_puto hF_160 hI_166 hkx (by decide) (by decide)
                have hs_169 : NVq I_166 J x b_4 = s_5 := by rw [hI_166]; exact (vq_oI wvqx (ro_o hkx (by decide)) (by decide)).trans hs_161
                have hs_170 : NWq I_166 J x b_6 = s_7 := by rw [hI_166]; exact (zq_oI wzqx (ro_o hkx (by decide)) (by decide)).trans hs_162
                have hs_171 : MTq I_166 J x b_8 = s_9 := by rw [hI_166]; exact (mq_uIt wmqx (by decide)).trans hs_163
                have hs_172 : NRq I_166 J x b_10 b_11 = s_12 := by rw [hI_166]; exact (nq_uIt wnqx (by decide)).trans hs_164
                have hs_173 : QTq I_166 J x = (QT_.w_om s_13 (x_157)) := by rw [hI_166]; exact (qq_uIt wqqx (by decide)).trans hs_165
                refine g_aload_n C 0 dX12_readSaid_90 rfl rfl ?_
                refine g_callVV C K (c_X12_go W9 hLx hkx   hU_167) hLx hkx (by decide) rfl v_12_156 rfl ⟨rfl, rfl⟩ ⟨Nat.le_of_ble_eq_true rfl, Nat.le_of_ble_eq_true rfl⟩ (Nat.le_of_ble_eq_true rfl) ⟨Nat.le_of_ble_eq_true rfl, Nat.le_of_ble_eq_true rfl⟩ dX12_readSaid_91 rfl (st := []) (fun I_175 J_176 h_177 => ?_)
                obtain ⟨hUI_175, hFI_175, hGJ_176, fx_174, ex_174⟩ := h_177
                have hF_178 := fq_tr hF_168 hFI_175 (by decide)
                have hG_179 := fq_tr hG hGJ_176 (by decide)
                obtain ⟨s_181, hs_181⟩ : ∃ z, MTq I_175 J_176 x b_8 = z := ⟨_, rfl⟩
                have c_180 : mGo (s_9) = s_181 := by have q := fx_174; simp only [emqx, hs_171, hs_181] at q; exact q.symm
                have hs_182 : NVq I_175 J_176 x b_4 = s_5 := (vq_fq wvqx hFI_175 hGJ_176 (by decide) (by decide)).trans hs_169
                have hs_183 : NWq I_175 J_176 x b_6 = s_7 := (zq_fq wzqx hFI_175 hGJ_176 (by decide) (by decide)).trans hs_170
                have hs_184 : NRq I_175 J_176 x b_10 b_11 = s_12 := (nq_fq wnqx hFI_175 hGJ_176 (by decide) (by decide)).trans hs_172
                have hs_185 : QTq I_175 J_176 x = (QT_.w_om s_13 (x_157)) := (qq_fq wqqx hFI_175 hGJ_176 (by decide) (by decide)).trans hs_173
                refine g_iconst C (v := 1) dX12_readSaid_94 (by decide) ?_
                refine g_istore_n C dX12_readSaid_95 rfl (by decide) (lo2 := [(3, .int 1), (0, .ref x), (1, .int v_14), (2, .int v_15)]) rfl ?_
                refine g_iload_n C 2 dX12_readSaid_96 rfl rfl ?_
                refine g_if_eq C (tgt := 108) dX12_readSaid_97 (by decide) (fun h_186 => ?_) (fun h_186 => ?_)
                · skip
                  exact eq_no (h_186) r_138 rc_0 (by decide)
                · skip
                  have n_187 : ¬ v_14 = 0 := h_186
                  refine g_aload_n C 1 dX12_readSaid_100 rfl rfl ?_
                  refine g_callVI C K (c_X12_readBracket_3 W9 hLx hkx   hUI_175  (by rw [(fq_at hFI_175 hLx hkx (by decide) (by decide) (kp_j hI_166 (by decide) (kp_j hI_158 (by decide) q_20))), (fq_at hFI_175 hLx hkx (by decide) (by decide) (kp_j hI_166 (by decide) (kp_s hI_158)))]; have := (ti_k tx_157 rc_1); omega) ((fq_at hFI_175 hLx hkx (by decide) (by decide) (kp_s hI_166)))) hLx hkx (by decide) rfl v_12_401 rfl ⟨rfl, rfl⟩ ⟨Nat.le_of_ble_eq_true rfl, Nat.le_of_ble_eq_true rfl⟩ (Nat.le_of_ble_eq_true rfl) ⟨Nat.le_of_ble_eq_true rfl, Nat.le_of_ble_eq_true rfl⟩ dX12_readSaid_101 rfl (st := []) (fun x_188 I_189 J_190 h_191 => ?_)
                  obtain ⟨hUI_189, hFI_189, hGJ_190, rx_188, fx_188, ex_188⟩ := h_191
                  have hF_192 := fq_tr hF_178 hFI_189 (by decide)
                  have hG_193 := fq_tr hG_179 hGJ_190 (by decide)
                  obtain ⟨s_195, hs_195⟩ : ∃ z, MTq I_189 J_190 x b_8 = z := ⟨_, rfl⟩
                  obtain ⟨s_196, hs_196⟩ : ∃ z, NRq I_189 J_190 x b_10 b_11 = z := ⟨_, rfl⟩
                  obtain ⟨s_197, hs_197⟩ : ∃ z, QTq I_189 J_190 x = z := ⟨_, rfl⟩
                  have c_194 : mBrK 5 (s_5) (s_7) (s_181) (s_12) ((QT_.w_om s_13 (x_157))) = (x_188, s_195, s_196, s_197) := by have q := fx_188; simp only [evqx, ezqx, emqx, enqx, eqqx, hs_182, hs_183, hs_181, hs_184, hs_185, hs_195, hs_196, hs_197] at q; exact q.symm
                  have hs_198 : NVq I_189 J_190 x b_4 = s_5 := (vq_fq wvqx hFI_189 hGJ_190 (by decide) (by decide)).trans hs_182
                  have hs_199 : NWq I_189 J_190 x b_6 = s_7 := (zq_fq wzqx hFI_189 hGJ_190 (by decide) (by decide)).trans hs_183
                  obtain ⟨x_200, hx_200, rx_200⟩ := ex_getw (I := I_189) (a := x) (j := 47) (lo := 0) (hi := 60) hUI_189.1 hLx (ro_o hkx (by decide)) rfl
                  obtain ⟨x_201, hx_201, rx_201⟩ := ex_getw (I := I_189) (a := x) (j := 50) (lo := 0) (hi := 59) hUI_189.1 hLx (ro_o hkx (by decide)) rfl
                  obtain ⟨x_202, hx_202, rx_202⟩ := ex_getw (I := I_189) (a := x) (j := 48) (lo := 0) (hi := 20) hUI_189.1 hLx (ro_o hkx (by decide)) rfl
                  have f_203 : s_197.om = x_202 := (congrArg QT_.om hs_197).symm.trans hx_202
                  refine g_istore_n C dX12_readSaid_104 rfl (by decide) (lo2 := [(3, .int x_188), (0, .ref x), (1, .int v_14), (2, .int v_15)]) rfl ?_
                  refine g_goto C (tgt := 166) dX12_readSaid_105 (by decide) ?_
                  refine g_aload_n C 1 dX12_readSaid_166 rfl rfl ?_
                  refine g_dup C dX12_readSaid_167 rfl ?_
                  refine g_getI C K hLx hkx f_12_398 (v := 3) ex_188.2 dX12_readSaid_168 ?_
                  refine g_iconst C (v := 1) dX12_readSaid_171 (by decide) ?_
                  refine g_isub C (v := 2) dX12_readSaid_172 (by decide) ?_
                  refine h_putI C K hLx hkx f_12_398 p_12_49 dX12_readSaid_173 (fun I_204 hI_204 => ?_)
                  have hU_205 := iw_put W9 hUI_189 hI_204 (ro_o hkx (by decide)) (lo := 0) (hi := 8) (rfl) (rg_w rc_2 (by decide) (by decide)) rfl
                  have hF_206 := fq_puto hF_192 hI_204 hkx (by decide) (by decide)
                  have hs_207 : NVq I_204 J_190 x b_4 = s_5 := by rw [hI_204]; exact (vq_oI wvqx (ro_o hkx (by decide)) (by decide)).trans hs_198
                  have hs_208 : NWq I_204 J_190 x b_6 = s_7 := by rw [hI_204]; exact (zq_oI wzqx (ro_o hkx (by decide)) (by decide)).trans hs_199
                  have hs_209 : MTq I_204 J_190 x b_8 = s_195 := by rw [hI_204]; exact (mq_uIt wmqx (by decide)).trans hs_195
                  have hs_210 : NRq I_204 J_190 x b_10 b_11 = s_196 := by rw [hI_204]; exact (nq_uIt wnqx (by decide)).trans hs_196
                  have hs_211 : QTq I_204 J_190 x = s_197 := by rw [hI_204]; exact (qq_uIt wqqx (by decide)).trans hs_197
                  refine g_iload_n C 0 dX12_readSaid_176 rfl rfl ?_
                  exact g_zret (ty := .boolean) (r := x_188) B K rfl (nar_z (rx_188)) ⟨hU_205, hF_206, hG_193, rx_188, (by (try simp only [h_30, (nlt h_30), c_132, h_133, h_136, f_139, h_140, h_156, hx_157, c_180, h_186, hx_200, hx_201, hx_202, f_203, if_true, if_false, mqM_tp, mqM_size, mqM_limit, mqM_to, mqM_frm, mqM_kind, mqM_number, mqM_sign, mqM_word, MT_.w_tp, MT_.w_size, MT_.w_limit, MT_.w_to, MT_.w_frm, MT_.w_kind, MT_.w_number, MT_.w_sign, MT_.w_word, nqM_rd, nqM_rn, nqM_taped, nqM_mfault, nqM_mplace, nqM_told, nqM_hl, nqM_hd, NR_.w_rd, NR_.w_rn, NR_.w_taped, NR_.w_mfault, NR_.w_mplace, NR_.w_told, NR_.w_hl, NR_.w_hd, qqM_om, QT_.w_om, vqM_nv, NV_.w_nv, zqM_nw, NW_.w_nw] at hQ_28); (try simp only [h_30, (nlt h_30), c_132, h_133, h_136, f_139, h_140, h_156, hx_157, c_180, h_186, hx_200, hx_201, hx_202, f_203, if_true, if_false, mqM_tp, mqM_size, mqM_limit, mqM_to, mqM_frm, mqM_kind, mqM_number, mqM_sign, mqM_word, MT_.w_tp, MT_.w_size, MT_.w_limit, MT_.w_to, MT_.w_frm, MT_.w_kind, MT_.w_number, MT_.w_sign, MT_.w_word, nqM_rd, nqM_rn, nqM_taped, nqM_mfault, nqM_mplace, nqM_told, nqM_hl, nqM_hd, NR_.w_rd, NR_.w_rn, NR_.w_taped, NR_.w_mfault, NR_.w_mplace, NR_.w_told, NR_.w_hl, NR_.w_hd, qqM_om, QT_.w_om, vqM_nv, NV_.w_nv, zqM_nw, NW_.w_nw] at u_29); (try simp only [h_30, (nlt h_30), c_132, h_133, h_136, f_139, h_140, h_156, hx_157, c_180, h_186, hx_200, hx_201, hx_202, f_203, if_true, if_false, mqM_tp, mqM_size, mqM_limit, mqM_to, mqM_frm, mqM_kind, mqM_number, mqM_sign, mqM_word, MT_.w_tp, MT_.w_size, MT_.w_limit, MT_.w_to, MT_.w_frm, MT_.w_kind, MT_.w_number, MT_.w_sign, MT_.w_word, nqM_rd, nqM_rn, nqM_taped, nqM_mfault, nqM_mplace, nqM_told, nqM_hl, nqM_hd, NR_.w_rd, NR_.w_rn, NR_.w_taped, NR_.w_mfault, NR_.w_mplace, NR_.w_told, NR_.w_hl, NR_.w_hd, qqM_om, QT_.w_om, vqM_nv, NV_.w_nv, zqM_nw, NW_.w_nw] at c_194); simp only [mSd0, mSd1, mSd2, mBadQ, evqx, hs_207, hs_5, ezqx, hs_208, hs_7, emqx, hs_209, hs_9, enqx, hs_210, hs_12, eqqx, hs_211, hs_13, hQ_28, u_29, h_30, (nlt h_30), c_132, h_133, h_136, f_139, h_140, h_156, hx_157, c_180, h_186, c_194, hx_200, hx_201, hx_202, f_203, if_true, if_false, mqM_tp, mqM_size, mqM_limit, mqM_to, mqM_frm, mqM_kind, mqM_number, mqM_sign, mqM_word, MT_.w_tp, MT_.w_size, MT_.w_limit, MT_.w_to, MT_.w_frm, MT_.w_kind, MT_.w_number, MT_.w_sign, MT_.w_word, nqM_rd, nqM_rn, nqM_taped, nqM_mfault, nqM_mplace, nqM_told, nqM_hl, nqM_hd, NR_.w_rd, NR_.w_rn, NR_.w_taped, NR_.w_mfault, NR_.w_mplace, NR_.w_told, NR_.w_hl, NR_.w_hd, qqM_om, QT_.w_om, vqM_nv, NV_.w_nv, zqM_nw, NW_.w_nw]), (fun hq => by have n_212 : ¬ x_188 = 0 := hq; have r_213 := ne_lo (lo := 1) n_212 rx_188 rc_0 rfl (by decide); have f_214 := sz_v (fq_at hFI_175 hLx hkx (by decide) (by decide) (kp_j hI_166 (by decide) (kp_j hI_158 (by decide) q_20))) (fq_at hFI_175 hLx hkx (by decide) (by decide) (kp_j hI_166 (by decide) (kp_s hI_158))) hx_200 hx_202 hx_201 (ex_188.1 n_212); have f_215 := (ti_k tx_157 rc_1); exact (sz_m hx_1 hx_2 (kp_j hI_204 (by decide) hx_200) (kp_j hI_204 (by decide) hx_202) (kp_j hI_204 (by decide) hx_201) ⟨by omega, by omega, by omega, by omega⟩)), (kp_s hI_204)⟩ dX12_readSaid_177
              · skip
                exact absurd (h_156) (by decide)
          · skip
            have r_216 := (⟨(rv_14).1, (eq_rg (h_136) rc_0).2⟩ : Rg 0 0 v_14)
            refine g_iload_n C 2 dX12_readSaid_34 rfl rfl ?_
            refine g_bipush C (v := 27) dX12_readSaid_35 (by decide) ?_
            refine g_icmp_le C (tgt := 46) dX12_readSaid_37 (by decide) (fun h_217 => ?_) (fun h_217 => ?_)
            · skip
              refine g_aload_n C 0 dX12_readSaid_46 rfl rfl ?_
              have f_218 : s_13.om = v_17 := (congrArg QT_.om hs_13).symm.trans q_21
              refine g_getI C K hLx hkx f_12_395 (v := v_17) q_21 dX12_readSaid_47 ?_
              refine g_bipush C (v := 20) dX12_readSaid_50 (by decide) ?_
              refine g_icmp_eq C (tgt := 64) dX12_readSaid_52 (by decide) (fun h_219 => ?_) (fun h_219 => ?_)
              · skip
                have r_220 := (⟨(eq_rg (h_219) rc_20).1, (rv_17).2⟩ : Rg 20 20 v_17)
                refine g_aload_n C 0 dX12_readSaid_64 rfl rfl ?_
                refine g_iconst C (v := 4) dX12_readSaid_65 (by decide) ?_
                refine g_callVI C K (c_X12_bad W9 hLx hkx 4 (rg_w rc_4 (by decide) (by decide)) hU) hLx hkx (by decide) rfl v_12_146 rfl ⟨rfl, rfl⟩ ⟨Nat.le_of_ble_eq_true rfl, Nat.le_of_ble_eq_true rfl⟩ (Nat.le_of_ble_eq_true rfl) ⟨Nat.le_of_ble_eq_true rfl, Nat.le_of_ble_eq_true rfl⟩ dX12_readSaid_66 rfl (st := []) (fun x_221 I_222 J_223 h_224 => ?_)
                obtain ⟨hUI_222, hFI_222, hGJ_223, rx_221, fx_221⟩ := h_224
                have hF_225 := fq_tr hF hFI_222 (by decide)
                have hG_226 := fq_tr hG hGJ_223 (by decide)
                obtain ⟨s_228, hs_228⟩ : ∃ z, MTq I_222 J_223 x b_8 = z := ⟨_, rfl⟩
                obtain ⟨s_229, hs_229⟩ : ∃ z, NRq I_222 J_223 x b_10 b_11 = z := ⟨_, rfl⟩
                have c_227 : mBad (4) (s_9) (s_12) = (x_221, s_228, s_229) := by have q := fx_221; simp only [emqx, enqx, hs_9, hs_12, hs_228, hs_229] at q; exact q.symm
                have hs_230 : NVq I_222 J_223 x b_4 = s_5 := (vq_fq wvqx hFI_222 hGJ_223 (by decide) (by decide)).trans hs_5
                have hs_231 : NWq I_222 J_223 x b_6 = s_7 := (zq_fq wzqx hFI_222 hGJ_223 (by decide) (by decide)).trans hs_7
                have hs_232 : QTq I_222 J_223 x = s_13 := (qq_fq wqqx hFI_222 hGJ_223 (by decide) (by decide)).trans hs_13
                exact g_zret (ty := .boolean) (r := x_221) B K rfl (nar_z (rg_w rx_221 (by decide) (by decide))) ⟨hUI_222, hF_225, hG_226, rg_w rx_221 (by decide) (by decide), (by (try simp only [h_30, (nlt h_30), c_132, h_133, (eq_true h_136), h_217, f_218, (eq_true h_219), c_227, if_true, if_false, mqM_tp, mqM_size, mqM_limit, mqM_to, mqM_frm, mqM_kind, mqM_number, mqM_sign, mqM_word, MT_.w_tp, MT_.w_size, MT_.w_limit, MT_.w_to, MT_.w_frm, MT_.w_kind, MT_.w_number, MT_.w_sign, MT_.w_word, nqM_rd, nqM_rn, nqM_taped, nqM_mfault, nqM_mplace, nqM_told, nqM_hl, nqM_hd, NR_.w_rd, NR_.w_rn, NR_.w_taped, NR_.w_mfault, NR_.w_mplace, NR_.w_told, NR_.w_hl, NR_.w_hd, qqM_om, QT_.w_om, vqM_nv, NV_.w_nv, zqM_nw, NW_.w_nw] at hQ_28); (try simp only [h_30, (nlt h_30), c_132, h_133, (eq_true h_136), h_217, f_218, (eq_true h_219), c_227, if_true, if_false, mqM_tp, mqM_size, mqM_limit, mqM_to, mqM_frm, mqM_kind, mqM_number, mqM_sign, mqM_word, MT_.w_tp, MT_.w_size, MT_.w_limit, MT_.w_to, MT_.w_frm, MT_.w_kind, MT_.w_number, MT_.w_sign, MT_.w_word, nqM_rd, nqM_rn, nqM_taped, nqM_mfault, nqM_mplace, nqM_told, nqM_hl, nqM_hd, NR_.w_rd, NR_.w_rn, NR_.w_taped, NR_.w_mfault, NR_.w_mplace, NR_.w_told, NR_.w_hl, NR_.w_hd, qqM_om, QT_.w_om, vqM_nv, NV_.w_nv, zqM_nw, NW_.w_nw] at u_29); simp only [mSd0, mSd1, mSd2, mBadQ, evqx, hs_230, hs_5, ezqx, hs_231, hs_7, emqx, hs_228, hs_9, enqx, hs_229, hs_12, eqqx, hs_232, hs_13, hQ_28, u_29, h_30, (nlt h_30), c_132, h_133, (eq_true h_136), h_217, f_218, (eq_true h_219), c_227, if_true, if_false, mqM_tp, mqM_size, mqM_limit, mqM_to, mqM_frm, mqM_kind, mqM_number, mqM_sign, mqM_word, MT_.w_tp, MT_.w_size, MT_.w_limit, MT_.w_to, MT_.w_frm, MT_.w_kind, MT_.w_number, MT_.w_sign, MT_.w_word, nqM_rd, nqM_rn, nqM_taped, nqM_mfault, nqM_mplace, nqM_told, nqM_hl, nqM_hd, NR_.w_rd, NR_.w_rn, NR_.w_taped, NR_.w_mfault, NR_.w_mplace, NR_.w_told, NR_.w_hl, NR_.w_hd, qqM_om, QT_.w_om, vqM_nv, NV_.w_nv, zqM_nw, NW_.w_nw]), (fun q => ne_no q rx_221 rc_0), (fq_at hFI_222 hLx hkx (by decide) (by decide) q_22)⟩ dX12_readSaid_69
              · skip
                have n_233 : ¬ v_17 = 20 := h_219
                have r_234 := ne_hi (hi := 19) n_233 rv_17 rc_20 rfl (by decide)
                refine g_aload_n C 0 dX12_readSaid_55 rfl rfl ?_
                refine g_getI C K hLx hkx f_12_398 (v := 2) q_22 dX12_readSaid_56 ?_
                refine g_bipush C (v := 8) dX12_readSaid_59 (by decide) ?_
                refine g_icmp_ne C (tgt := 70) dX12_readSaid_61 (by decide) (fun h_235 => ?_) (fun h_235 => ?_)
                · skip
                  refine g_aload_n C 0 dX12_readSaid_70 rfl rfl ?_
                  refine g_dup C dX12_readSaid_71 rfl ?_
                  refine g_getI C K hLx hkx f_12_395 (v := v_17) q_21 dX12_readSaid_72 ?_
                  refine g_iconst C (v := 1) dX12_readSaid_75 (by decide) ?_
                  obtain ⟨x_236, hx_236, rx_236, tx_236⟩ := ex_add 1 20 r_234 rc_1 (by decide) (by decide) (by decide) (by decide)
                  refine g_iadd C (v := x_236) dX12_readSaid_76 hx_236 ?_
                  refine h_putI C K hLx hkx f_12_395 p_12_48 dX12_readSaid_77 (fun I_237 hI_237 => ?_)
                  have hU_238 := iw_put W9 hU hI_237 (ro_o hkx (by decide)) (lo := 0) (hi := 20) (rfl) (rg_w rx_236 (by decide) (by decide)) rfl
                  have hF_239 := fq_puto hF hI_237 hkx (by decide) (by decide)
                  have hs_240 : NVq I_237 J x b_4 = s_5 := by rw [hI_237]; exact (vq_oI wvqx (ro_o hkx (by decide)) (by decide)).trans hs_5
                  have hs_241 : NWq I_237 J x b_6 = s_7 := by rw [hI_237]; exact (zq_oI wzqx (ro_o hkx (by decide)) (by decide)).trans hs_7
                  have hs_242 : MTq I_237 J x b_8 = s_9 := by rw [hI_237]; exact (mq_uIt wmqx (by decide)).trans hs_9
                  have hs_243 : NRq I_237 J x b_10 b_11 = s_12 := by rw [hI_237]; exact (nq_uIt wnqx (by decide)).trans hs_12
                  have hs_244 : QTq I_237 J x = (QT_.w_om s_13 (x_236)) := by rw [hI_237]; exact ((qq_om wqqx).trans (congrArg (fun z : QT_ => QT_.w_om z (x_236)) hs_13)).trans rfl
                  refine g_aload_n C 0 dX12_readSaid_80 rfl rfl ?_
                  refine g_dup C dX12_readSaid_81 rfl ?_
                  refine g_getI C K hLx hkx f_12_398 (v := 2) (kp_j hI_237 (by decide) q_22) dX12_readSaid_82 ?_
                  refine g_iconst C (v := 1) dX12_readSaid_85 (by decide) ?_
                  refine g_iadd C (v := 3) dX12_readSaid_86 (by decide) ?_
                  refine h_putI C K hLx hkx f_12_398 p_12_49 dX12_readSaid_87 (fun I_245 hI_245 => ?_)
                  have hU_246 := iw_put W9 hU_238 hI_245 (ro_o hkx (by decide)) (lo := 0) (hi := 8) (rfl) (rg_w rc_3 (by decide) (by decide)) rfl
                  have hF_247 := fq_puto hF_239 hI_245 hkx (by decide) (by decide)
                  have hs_248 : NVq I_245 J x b_4 = s_5 := by rw [hI_245]; exact (vq_oI wvqx (ro_o hkx (by decide)) (by decide)).trans hs_240
                  have hs_249 : NWq I_245 J x b_6 = s_7 := by rw [hI_245]; exact (zq_oI wzqx (ro_o hkx (by decide)) (by decide)).trans hs_241
                  have hs_250 : MTq I_245 J x b_8 = s_9 := by rw [hI_245]; exact (mq_uIt wmqx (by decide)).trans hs_242
                  have hs_251 : NRq I_245 J x b_10 b_11 = s_12 := by rw [hI_245]; exact (nq_uIt wnqx (by decide)).trans hs_243
                  have hs_252 : QTq I_245 J x = (QT_.w_om s_13 (x_236)) := by rw [hI_245]; exact (qq_uIt wqqx (by decide)).trans hs_244
                  refine g_aload_n C 0 dX12_readSaid_90 rfl rfl ?_
                  refine g_callVV C K (c_X12_go W9 hLx hkx   hU_246) hLx hkx (by decide) rfl v_12_156 rfl ⟨rfl, rfl⟩ ⟨Nat.le_of_ble_eq_true rfl, Nat.le_of_ble_eq_true rfl⟩ (Nat.le_of_ble_eq_true rfl) ⟨Nat.le_of_ble_eq_true rfl, Nat.le_of_ble_eq_true rfl⟩ dX12_readSaid_91 rfl (st := []) (fun I_254 J_255 h_256 => ?_)
                  obtain ⟨hUI_254, hFI_254, hGJ_255, fx_253, ex_253⟩ := h_256
                  have hF_257 := fq_tr hF_247 hFI_254 (by decide)
                  have hG_258 := fq_tr hG hGJ_255 (by decide)
                  obtain ⟨s_260, hs_260⟩ : ∃ z, MTq I_254 J_255 x b_8 = z := ⟨_, rfl⟩
                  have c_259 : mGo (s_9) = s_260 := by have q := fx_253; simp only [emqx, hs_250, hs_260] at q; exact q.symm
                  have hs_261 : NVq I_254 J_255 x b_4 = s_5 := (vq_fq wvqx hFI_254 hGJ_255 (by decide) (by decide)).trans hs_248
                  have hs_262 : NWq I_254 J_255 x b_6 = s_7 := (zq_fq wzqx hFI_254 hGJ_255 (by decide) (by decide)).trans hs_249
                  have hs_263 : NRq I_254 J_255 x b_10 b_11 = s_12 := (nq_fq wnqx hFI_254 hGJ_255 (by decide) (by decide)).trans hs_251
                  have hs_264 : QTq I_254 J_255 x = (QT_.w_om s_13 (x_236)) := (qq_fq wqqx hFI_254 hGJ_255 (by decide) (by decide)).trans hs_252
                  refine g_iconst C (v := 1) dX12_readSaid_94 (by decide) ?_
                  refine g_istore_n C dX12_readSaid_95 rfl (by decide) (lo2 := [(3, .int 1), (0, .ref x), (1, .int v_14), (2, .int v_15)]) rfl ?_
                  refine g_iload_n C 2 dX12_readSaid_96 rfl rfl ?_
                  refine g_if_eq C (tgt := 108) dX12_readSaid_97 (by decide) (fun h_265 => ?_) (fun h_265 => ?_)
                  · skip
                    refine g_iload_n C 3 dX12_readSaid_108 rfl rfl ?_
                    refine g_bipush C (v := 18) dX12_readSaid_109 (by decide) ?_
                    refine g_icmp_ne C (tgt := 122) dX12_readSaid_111 (by decide) (fun h_266 => ?_) (fun h_266 => ?_)
                    · skip
                      have n_267 : ¬ v_15 = 18 := h_266
                      have r_268 := ne_lo (lo := 19) n_267 r_127 rc_18 rfl (by decide)
                      refine g_iload_n C 3 dX12_readSaid_122 rfl rfl ?_
                      refine g_bipush C (v := 22) dX12_readSaid_123 (by decide) ?_
                      refine g_icmp_ge C (tgt := 146) dX12_readSaid_125 (by decide) (fun h_269 => ?_) (fun h_269 => ?_)
                      · skip
                        have r_270 := le_r (h_269) rc_22 r_268
                        refine g_iload_n C 3 dX12_readSaid_146 rfl rfl ?_
                        refine g_bipush C (v := 24) dX12_readSaid_147 (by decide) ?_
                        refine g_icmp_ge C (tgt := 160) dX12_readSaid_149 (by decide) (fun h_271 => ?_) (fun h_271 => ?_)
                        · skip
                          have r_272 := le_r (h_271) rc_24 r_270
                          refine g_aload_n C 1 dX12_readSaid_160 rfl rfl ?_
                          refine g_iload_n C 3 dX12_readSaid_161 rfl rfl ?_
                          refine g_callVI C K (c_X12_readCompare W9 hLx hkx v_15 (r_272) hUI_254  (by rw [(fq_at hFI_254 hLx hkx (by decide) (by decide) (kp_j hI_245 (by decide) (kp_j hI_237 (by decide) q_20))), (fq_at hFI_254 hLx hkx (by decide) (by decide) (kp_j hI_245 (by decide) (kp_s hI_237)))]; have := (ti_k tx_236 rc_1); omega)) hLx hkx (by decide) rfl v_12_410 rfl ⟨rfl, rfl⟩ ⟨Nat.le_of_ble_eq_true rfl, Nat.le_of_ble_eq_true rfl⟩ (Nat.le_of_ble_eq_true rfl) ⟨Nat.le_of_ble_eq_true rfl, Nat.le_of_ble_eq_true rfl⟩ dX12_readSaid_162 rfl (st := []) (fun x_273 I_274 J_275 h_276 => ?_)
                          obtain ⟨hUI_274, hFI_274, hGJ_275, rx_273, fx_273, ex_273⟩ := h_276
                          have hF_277 := fq_tr hF_257 hFI_274 (by decide)
                          have hG_278 := fq_tr hG_258 hGJ_275 (by decide)
                          obtain ⟨s_280, hs_280⟩ : ∃ z, MTq I_274 J_275 x b_8 = z := ⟨_, rfl⟩
                          obtain ⟨s_281, hs_281⟩ : ∃ z, NRq I_274 J_275 x b_10 b_11 = z := ⟨_, rfl⟩
                          obtain ⟨s_282, hs_282⟩ : ∃ z, QTq I_274 J_275 x = z := ⟨_, rfl⟩
                          have c_279 : mCmp (s_260) (s_12) ((QT_.w_om s_13 (x_236))) = (x_273, s_280, s_281, s_282) := by have q := fx_273; simp only [emqx, enqx, eqqx, hs_260, hs_263, hs_264, hs_280, hs_281, hs_282] at q; exact q.symm
                          have hs_283 : NVq I_274 J_275 x b_4 = s_5 := (vq_fq wvqx hFI_274 hGJ_275 (by decide) (by decide)).trans hs_261
                          have hs_284 : NWq I_274 J_275 x b_6 = s_7 := (zq_fq wzqx hFI_274 hGJ_275 (by decide) (by decide)).trans hs_262
                          obtain ⟨x_285, hx_285, rx_285⟩ := ex_getw (I := I_274) (a := x) (j := 47) (lo := 0) (hi := 60) hUI_274.1 hLx (ro_o hkx (by decide)) rfl
                          obtain ⟨x_286, hx_286, rx_286⟩ := ex_getw (I := I_274) (a := x) (j := 50) (lo := 0) (hi := 59) hUI_274.1 hLx (ro_o hkx (by decide)) rfl
                          refine g_istore_n C dX12_readSaid_165 rfl (by decide) (lo2 := [(3, .int x_273), (0, .ref x), (1, .int v_14), (2, .int v_15)]) rfl ?_
                          refine g_aload_n C 1 dX12_readSaid_166 rfl rfl ?_
                          refine g_dup C dX12_readSaid_167 rfl ?_
                          refine g_getI C K hLx hkx f_12_398 (v := 3) (fq_at hFI_274 hLx hkx (by decide) (by decide) (fq_at hFI_254 hLx hkx (by decide) (by decide) (kp_s hI_245))) dX12_readSaid_168 ?_
                          refine g_iconst C (v := 1) dX12_readSaid_171 (by decide) ?_
                          refine g_isub C (v := 2) dX12_readSaid_172 (by decide) ?_
                          refine h_putI C K hLx hkx f_12_398 p_12_49 dX12_readSaid_173 (fun I_287 hI_287 => ?_)
                          have hU_288 := iw_put W9 hUI_274 hI_287 (ro_o hkx (by decide)) (lo := 0) (hi := 8) (rfl) (rg_w rc_2 (by decide) (by decide)) rfl
                          have hF_289 := fq_puto hF_277 hI_287 hkx (by decide) (by decide)
                          have hs_290 : NVq I_287 J_275 x b_4 = s_5 := by rw [hI_287]; exact (vq_oI wvqx (ro_o hkx (by decide)) (by decide)).trans hs_283
                          have hs_291 : NWq I_287 J_275 x b_6 = s_7 := by rw [hI_287]; exact (zq_oI wzqx (ro_o hkx (by decide)) (by decide)).trans hs_284
                          have hs_292 : MTq I_287 J_275 x b_8 = s_280 := by rw [hI_287]; exact (mq_uIt wmqx (by decide)).trans hs_280
                          have hs_293 : NRq I_287 J_275 x b_10 b_11 = s_281 := by rw [hI_287]; exact (nq_uIt wnqx (by decide)).trans hs_281
                          have hs_294 : QTq I_287 J_275 x = s_282 := by rw [hI_287]; exact (qq_uIt wqqx (by decide)).trans hs_282
                          refine g_iload_n C 0 dX12_readSaid_176 rfl rfl ?_
                          exact g_zret (ty := .boolean) (r := x_273) B K rfl (nar_z (rx_273)) ⟨hU_288, hF_289, hG_278, rx_273, (by (try simp only [h_30, (nlt h_30), c_132, h_133, (eq_true h_136), h_217, f_218, h_219, h_235, hx_236, c_259, (eq_true h_265), h_266, h_269, h_271, hx_285, hx_286, if_true, if_false, mqM_tp, mqM_size, mqM_limit, mqM_to, mqM_frm, mqM_kind, mqM_number, mqM_sign, mqM_word, MT_.w_tp, MT_.w_size, MT_.w_limit, MT_.w_to, MT_.w_frm, MT_.w_kind, MT_.w_number, MT_.w_sign, MT_.w_word, nqM_rd, nqM_rn, nqM_taped, nqM_mfault, nqM_mplace, nqM_told, nqM_hl, nqM_hd, NR_.w_rd, NR_.w_rn, NR_.w_taped, NR_.w_mfault, NR_.w_mplace, NR_.w_told, NR_.w_hl, NR_.w_hd, qqM_om, QT_.w_om, vqM_nv, NV_.w_nv, zqM_nw, NW_.w_nw] at hQ_28); (try simp only [h_30, (nlt h_30), c_132, h_133, (eq_true h_136), h_217, f_218, h_219, h_235, hx_236, c_259, (eq_true h_265), h_266, h_269, h_271, hx_285, hx_286, if_true, if_false, mqM_tp, mqM_size, mqM_limit, mqM_to, mqM_frm, mqM_kind, mqM_number, mqM_sign, mqM_word, MT_.w_tp, MT_.w_size, MT_.w_limit, MT_.w_to, MT_.w_frm, MT_.w_kind, MT_.w_number, MT_.w_sign, MT_.w_word, nqM_rd, nqM_rn, nqM_taped, nqM_mfault, nqM_mplace, nqM_told, nqM_hl, nqM_hd, NR_.w_rd, NR_.w_rn, NR_.w_taped, NR_.w_mfault, NR_.w_mplace, NR_.w_told, NR_.w_hl, NR_.w_hd, qqM_om, QT_.w_om, vqM_nv, NV_.w_nv, zqM_nw, NW_.w_nw] at u_29); (try simp only [h_30, (nlt h_30), c_132, h_133, (eq_true h_136), h_217, f_218, h_219, h_235, hx_236, c_259, (eq_true h_265), h_266, h_269, h_271, hx_285, hx_286, if_true, if_false, mqM_tp, mqM_size, mqM_limit, mqM_to, mqM_frm, mqM_kind, mqM_number, mqM_sign, mqM_word, MT_.w_tp, MT_.w_size, MT_.w_limit, MT_.w_to, MT_.w_frm, MT_.w_kind, MT_.w_number, MT_.w_sign, MT_.w_word, nqM_rd, nqM_rn, nqM_taped, nqM_mfault, nqM_mplace, nqM_told, nqM_hl, nqM_hd, NR_.w_rd, NR_.w_rn, NR_.w_taped, NR_.w_mfault, NR_.w_mplace, NR_.w_told, NR_.w_hl, NR_.w_hd, qqM_om, QT_.w_om, vqM_nv, NV_.w_nv, zqM_nw, NW_.w_nw] at c_279); simp only [mSd0, mSd1, mSd2, mBadQ, evqx, hs_290, hs_5, ezqx, hs_291, hs_7, emqx, hs_292, hs_9, enqx, hs_293, hs_12, eqqx, hs_294, hs_13, hQ_28, u_29, h_30, (nlt h_30), c_132, h_133, (eq_true h_136), h_217, f_218, h_219, h_235, hx_236, c_259, (eq_true h_265), h_266, h_269, h_271, c_279, hx_285, hx_286, if_true, if_false, mqM_tp, mqM_size, mqM_limit, mqM_to, mqM_frm, mqM_kind, mqM_number, mqM_sign, mqM_word, MT_.w_tp, MT_.w_size, MT_.w_limit, MT_.w_to, MT_.w_frm, MT_.w_kind, MT_.w_number, MT_.w_sign, MT_.w_word, nqM_rd, nqM_rn, nqM_taped, nqM_mfault, nqM_mplace, nqM_told, nqM_hl, nqM_hd, NR_.w_rd, NR_.w_rn, NR_.w_taped, NR_.w_mfault, NR_.w_mplace, NR_.w_told, NR_.w_hl, NR_.w_hd, qqM_om, QT_.w_om, vqM_nv, NV_.w_nv, zqM_nw, NW_.w_nw]), (fun hq => by have n_295 : ¬ x_273 = 0 := hq; have r_296 := ne_lo (lo := 1) n_295 rx_273 rc_0 rfl (by decide); have f_297 := sl_v (fq_at hFI_254 hLx hkx (by decide) (by decide) (kp_j hI_245 (by decide) (kp_j hI_237 (by decide) q_20))) hx_285 hx_286 (ex_273 n_295); have f_298 : s_282.om = x_236 := (congrArg QT_.om hs_294).symm.trans (kp_j hI_287 (by decide) (fq_at hFI_274 hLx hkx (by decide) (by decide) (fq_at hFI_254 hLx hkx (by decide) (by decide) (kp_j hI_245 (by decide) (kp_s hI_237))))); exact (sz_m hx_1 hx_2 (kp_j hI_287 (by decide) hx_285) (kp_j hI_287 (by decide) (fq_at hFI_274 hLx hkx (by decide) (by decide) (fq_at hFI_254 hLx hkx (by decide) (by decide) (kp_j hI_245 (by decide) (kp_s hI_237))))) (kp_j hI_287 (by decide) hx_286) ⟨by have := (ti_k tx_236 rc_1); omega, by have := (ti_k tx_236 rc_1); omega, by have := (ti_k tx_236 rc_1); omega, by have := (ti_k tx_236 rc_1); omega⟩)), (kp_s hI_287)⟩ dX12_readSaid_177
                        · skip
                          have r_299 := lt_l (hi := 23) (nle h_271) r_270 rc_24 (by decide)
                          refine g_aload_n C 1 dX12_readSaid_152 rfl rfl ?_
                          refine g_iload_n C 3 dX12_readSaid_153 rfl rfl ?_
                          refine g_callVI C K (c_X12_readOf W9 hLx hkx v_15 (r_299) hUI_254  (by rw [(fq_at hFI_254 hLx hkx (by decide) (by decide) (kp_j hI_245 (by decide) (kp_j hI_237 (by decide) q_20))), (fq_at hFI_254 hLx hkx (by decide) (by decide) (kp_j hI_245 (by decide) (kp_s hI_237)))]; have := (ti_k tx_236 rc_1); omega)) hLx hkx (by decide) rfl v_12_407 rfl ⟨rfl, rfl⟩ ⟨Nat.le_of_ble_eq_true rfl, Nat.le_of_ble_eq_true rfl⟩ (Nat.le_of_ble_eq_true rfl) ⟨Nat.le_of_ble_eq_true rfl, Nat.le_of_ble_eq_true rfl⟩ dX12_readSaid_154 rfl (st := []) (fun x_300 I_301 J_302 h_303 => ?_)
                          obtain ⟨hUI_301, hFI_301, hGJ_302, rx_300, fx_300, ex_300⟩ := h_303
                          have hF_304 := fq_tr hF_257 hFI_301 (by decide)
                          have hG_305 := fq_tr hG_258 hGJ_302 (by decide)
                          obtain ⟨s_307, hs_307⟩ : ∃ z, MTq I_301 J_302 x b_8 = z := ⟨_, rfl⟩
                          obtain ⟨s_308, hs_308⟩ : ∃ z, NRq I_301 J_302 x b_10 b_11 = z := ⟨_, rfl⟩
                          obtain ⟨s_309, hs_309⟩ : ∃ z, QTq I_301 J_302 x = z := ⟨_, rfl⟩
                          have c_306 : mOf (v_15) (s_5) (s_7) (s_260) (s_12) ((QT_.w_om s_13 (x_236))) = (x_300, s_307, s_308, s_309) := by have q := fx_300; simp only [evqx, ezqx, emqx, enqx, eqqx, hs_261, hs_262, hs_260, hs_263, hs_264, hs_307, hs_308, hs_309] at q; exact q.symm
                          have hs_310 : NVq I_301 J_302 x b_4 = s_5 := (vq_fq wvqx hFI_301 hGJ_302 (by decide) (by decide)).trans hs_261
                          have hs_311 : NWq I_301 J_302 x b_6 = s_7 := (zq_fq wzqx hFI_301 hGJ_302 (by decide) (by decide)).trans hs_262
                          obtain ⟨x_312, hx_312, rx_312⟩ := ex_getw (I := I_301) (a := x) (j := 47) (lo := 0) (hi := 60) hUI_301.1 hLx (ro_o hkx (by decide)) rfl
                          obtain ⟨x_313, hx_313, rx_313⟩ := ex_getw (I := I_301) (a := x) (j := 50) (lo := 0) (hi := 59) hUI_301.1 hLx (ro_o hkx (by decide)) rfl
                          refine g_goto C (tgt := 165) dX12_readSaid_157 (by decide) ?_
                          refine g_istore_n C dX12_readSaid_165 rfl (by decide) (lo2 := [(3, .int x_300), (0, .ref x), (1, .int v_14), (2, .int v_15)]) rfl ?_
                          refine g_aload_n C 1 dX12_readSaid_166 rfl rfl ?_
                          refine g_dup C dX12_readSaid_167 rfl ?_
                          refine g_getI C K hLx hkx f_12_398 (v := 3) (fq_at hFI_301 hLx hkx (by decide) (by decide) (fq_at hFI_254 hLx hkx (by decide) (by decide) (kp_s hI_245))) dX12_readSaid_168 ?_
                          refine g_iconst C (v := 1) dX12_readSaid_171 (by decide) ?_
                          refine g_isub C (v := 2) dX12_readSaid_172 (by decide) ?_
                          refine h_putI C K hLx hkx f_12_398 p_12_49 dX12_readSaid_173 (fun I_314 hI_314 => ?_)
                          have hU_315 := iw_put W9 hUI_301 hI_314 (ro_o hkx (by decide)) (lo := 0) (hi := 8) (rfl) (rg_w rc_2 (by decide) (by decide)) rfl
                          have hF_316 := fq_puto hF_304 hI_314 hkx (by decide) (by decide)
                          have hs_317 : NVq I_314 J_302 x b_4 = s_5 := by rw [hI_314]; exact (vq_oI wvqx (ro_o hkx (by decide)) (by decide)).trans hs_310
                          have hs_318 : NWq I_314 J_302 x b_6 = s_7 := by rw [hI_314]; exact (zq_oI wzqx (ro_o hkx (by decide)) (by decide)).trans hs_311
                          have hs_319 : MTq I_314 J_302 x b_8 = s_307 := by rw [hI_314]; exact (mq_uIt wmqx (by decide)).trans hs_307
                          have hs_320 : NRq I_314 J_302 x b_10 b_11 = s_308 := by rw [hI_314]; exact (nq_uIt wnqx (by decide)).trans hs_308
                          have hs_321 : QTq I_314 J_302 x = s_309 := by rw [hI_314]; exact (qq_uIt wqqx (by decide)).trans hs_309
                          refine g_iload_n C 0 dX12_readSaid_176 rfl rfl ?_
                          exact g_zret (ty := .boolean) (r := x_300) B K rfl (nar_z (rx_300)) ⟨hU_315, hF_316, hG_305, rx_300, (by first | ((try simp only [h_30, (nlt h_30), c_132, h_133, (eq_true h_136), h_217, f_218, h_219, h_235, hx_236, c_259, (eq_true h_265), h_266, h_269, h_271, (nle h_271), hx_312, hx_313, if_true, if_false, mqM_tp, mqM_size, mqM_limit, mqM_to, mqM_frm, mqM_kind, mqM_number, mqM_sign, mqM_word, MT_.w_tp, MT_.w_size, MT_.w_limit, MT_.w_to, MT_.w_frm, MT_.w_kind, MT_.w_number, MT_.w_sign, MT_.w_word, nqM_rd, nqM_rn, nqM_taped, nqM_mfault, nqM_mplace, nqM_told, nqM_hl, nqM_hd, NR_.w_rd, NR_.w_rn, NR_.w_taped, NR_.w_mfault, NR_.w_mplace, NR_.w_told, NR_.w_hl, NR_.w_hd, qqM_om, QT_.w_om, vqM_nv, NV_.w_nv, zqM_nw, NW_.w_nw] at hQ_28); (try simp only [h_30, (nlt h_30), c_132, h_133, (eq_true h_136), h_217, f_218, h_219, h_235, hx_236, c_259, (eq_true h_265), h_266, h_269, h_271, (nle h_271), hx_312, hx_313, if_true, if_false, mqM_tp, mqM_size, mqM_limit, mqM_to, mqM_frm, mqM_kind, mqM_number, mqM_sign, mqM_word, MT_.w_tp, MT_.w_size, MT_.w_limit, MT_.w_to, MT_.w_frm, MT_.w_kind, MT_.w_number, MT_.w_sign, MT_.w_word, nqM_rd, nqM_rn, nqM_taped, nqM_mfault, nqM_mplace, nqM_told, nqM_hl, nqM_hd, NR_.w_rd, NR_.w_rn, NR_.w_taped, NR_.w_mfault, NR_.w_mplace, NR_.w_told, NR_.w_hl, NR_.w_hd, qqM_om, QT_.w_om, vqM_nv, NV_.w_nv, zqM_nw, NW_.w_nw] at u_29); (try simp only [h_30, (nlt h_30), c_132, h_133, (eq_true h_136), h_217, f_218, h_219, h_235, hx_236, c_259, (eq_true h_265), h_266, h_269, h_271, (nle h_271), hx_312, hx_313, if_true, if_false, mqM_tp, mqM_size, mqM_limit, mqM_to, mqM_frm, mqM_kind, mqM_number, mqM_sign, mqM_word, MT_.w_tp, MT_.w_size, MT_.w_limit, MT_.w_to, MT_.w_frm, MT_.w_kind, MT_.w_number, MT_.w_sign, MT_.w_word, nqM_rd, nqM_rn, nqM_taped, nqM_mfault, nqM_mplace, nqM_told, nqM_hl, nqM_hd, NR_.w_rd, NR_.w_rn, NR_.w_taped, NR_.w_mfault, NR_.w_mplace, NR_.w_told, NR_.w_hl, NR_.w_hd, qqM_om, QT_.w_om, vqM_nv, NV_.w_nv, zqM_nw, NW_.w_nw] at c_306); simp only [mSd0, mSd1, mSd2, mBadQ, evqx, hs_317, hs_5, ezqx, hs_318, hs_7, emqx, hs_319, hs_9, enqx, hs_320, hs_12, eqqx, hs_321, hs_13, hQ_28, u_29, h_30, (nlt h_30), c_132, h_133, (eq_true h_136), h_217, f_218, h_219, h_235, hx_236, c_259, (eq_true h_265), h_266, h_269, h_271, (nle h_271), c_306, hx_312, hx_313, if_true, if_false, mqM_tp, mqM_size, mqM_limit, mqM_to, mqM_frm, mqM_kind, mqM_number, mqM_sign, mqM_word, MT_.w_tp, MT_.w_size, MT_.w_limit, MT_.w_to, MT_.w_frm, MT_.w_kind, MT_.w_number, MT_.w_sign, MT_.w_word, nqM_rd, nqM_rn, nqM_taped, nqM_mfault, nqM_mplace, nqM_told, nqM_hl, nqM_hd, NR_.w_rd, NR_.w_rn, NR_.w_taped, NR_.w_mfault, NR_.w_mplace, NR_.w_told, NR_.w_hl, NR_.w_hd, qqM_om, QT_.w_om, vqM_nv, NV_.w_nv, zqM_nw, NW_.w_nw]; done) | exact absurd (nle h_271) h_30), (fun hq => by have n_322 : ¬ x_300 = 0 := hq; have r_323 := ne_lo (lo := 1) n_322 rx_300 rc_0 rfl (by decide); have f_324 := sl_v (fq_at hFI_254 hLx hkx (by decide) (by decide) (kp_j hI_245 (by decide) (kp_j hI_237 (by decide) q_20))) hx_312 hx_313 (ex_300 n_322); have f_325 : s_309.om = x_236 := (congrArg QT_.om hs_321).symm.trans (kp_j hI_314 (by decide) (fq_at hFI_301 hLx hkx (by decide) (by decide) (fq_at hFI_254 hLx hkx (by decide) (by decide) (kp_j hI_245 (by decide) (kp_s hI_237))))); exact (sz_m hx_1 hx_2 (kp_j hI_314 (by decide) hx_312) (kp_j hI_314 (by decide) (fq_at hFI_301 hLx hkx (by decide) (by decide) (fq_at hFI_254 hLx hkx (by decide) (by decide) (kp_j hI_245 (by decide) (kp_s hI_237))))) (kp_j hI_314 (by decide) hx_313) ⟨by have := (ti_k tx_236 rc_1); omega, by have := (ti_k tx_236 rc_1); omega, by have := (ti_k tx_236 rc_1); omega, by have := (ti_k tx_236 rc_1); omega⟩)), (kp_s hI_314)⟩ dX12_readSaid_177
                      · skip
                        have r_326 := lt_l (hi := 21) (nle h_269) r_268 rc_22 (by decide)
                        refine g_aload_n C 1 dX12_readSaid_128 rfl rfl ?_
                        refine g_aload_n C 1 dX12_readSaid_129 rfl rfl ?_
                        refine g_bipush C (v := 50) dX12_readSaid_130 (by decide) ?_
                        refine g_iload_n C 3 dX12_readSaid_132 rfl rfl ?_
                        obtain ⟨x_327, hx_327, rx_327, tx_327⟩ := ex_add 69 71 rc_50 r_326 (by decide) (by decide) (by decide) (by decide)
                        refine g_iadd C (v := x_327) dX12_readSaid_133 hx_327 ?_
                        refine g_iconst C (v := 0) dX12_readSaid_134 (by decide) ?_
                        refine g_iconst C (v := 0) dX12_readSaid_135 (by decide) ?_
                        refine g_iconst C (v := 0) dX12_readSaid_136 (by decide) ?_
                        have r_328 := (show Rg 0 59 v_16 from by have q1 := rv_16; have q2 := rx_236; unfold Rg at *; omega)
                        refine g_callVI C K (c_X12_saysOne W9 hLx hkx x_327 0 0 0 (rg_w rx_327 (by decide) (by decide)) (rg_w rc_0 (by decide) (by decide)) (rg_w rc_0 (by decide) (by decide)) hUI_254  (eq_rg (fq_at hFI_254 hLx hkx (by decide) (by decide) (kp_j hI_245 (by decide) (kp_j hI_237 (by decide) q_20))) (r_328)) (by rw [(fq_at hFI_254 hLx hkx (by decide) (by decide) (kp_j hI_245 (by decide) (kp_j hI_237 (by decide) q_20)))]; exact ⟨fun q => by rcases q with q | q | q; exact absurd q (rg_nek rx_327 rc_1 (by decide)); exact absurd q (rg_nek rx_327 rc_2 (by decide)); exact absurd q (rg_nek rx_327 rc_3 (by decide)), fun q => by rcases q with q | q; exact absurd q (rg_nek rx_327 rc_2 (by decide)); exact absurd q (rg_nek rx_327 rc_3 (by decide)), fun q => absurd q (rg_nek rx_327 rc_73 (by decide))⟩)) hLx hkx (by decide) rfl v_12_389 rfl ⟨rfl, rfl⟩ ⟨Nat.le_of_ble_eq_true rfl, Nat.le_of_ble_eq_true rfl⟩ (Nat.le_of_ble_eq_true rfl) ⟨Nat.le_of_ble_eq_true rfl, Nat.le_of_ble_eq_true rfl⟩ dX12_readSaid_137 rfl (st := [.ref x]) (fun x_329 I_330 J_331 h_332 => ?_)
                        obtain ⟨hUI_330, hFI_330, hGJ_331, rx_329, ex_329⟩ := h_332
                        have hF_333 := fq_tr hF_257 hFI_330 (by decide)
                        have hG_334 := fq_tr hG_258 hGJ_331 (by decide)
                        have hs_335 : NVq I_330 J_331 x b_4 = s_5 := (vq_fq wvqx hFI_330 hGJ_331 (by decide) (by decide)).trans hs_261
                        have hs_336 : NWq I_330 J_331 x b_6 = s_7 := (zq_fq wzqx hFI_330 hGJ_331 (by decide) (by decide)).trans hs_262
                        have hs_337 : MTq I_330 J_331 x b_8 = s_260 := (mq_fq wmqx hFI_330 hGJ_331 (by decide) (by decide)).trans hs_260
                        have hs_338 : NRq I_330 J_331 x b_10 b_11 = s_12 := (nq_fq wnqx hFI_330 hGJ_331 (by decide) (by decide)).trans hs_263
                        have hs_339 : QTq I_330 J_331 x = (QT_.w_om s_13 (x_236)) := (qq_fq wqqx hFI_330 hGJ_331 (by decide) (by decide)).trans hs_264
                        obtain ⟨x_340, hx_340, rx_340, tx_340, ux_340⟩ := sa_b (lo := 1) (hi := 60) ex_329 (fq_at hFI_254 hLx hkx (by decide) (by decide) (kp_j hI_245 (by decide) (kp_j hI_237 (by decide) q_20))) r_328 (by decide) (by decide)
                        have r_341 := (show Rg 0 59 x_329 from by have q1 := ux_340; have q2 := r_328; unfold Rg at *; omega)
                        refine h_putI C K hLx hkx f_12_386 p_12_50 dX12_readSaid_140 (fun I_342 hI_342 => ?_)
                        have hU_343 := iw_put W9 hUI_330 hI_342 (ro_o hkx (by decide)) (lo := 0) (hi := 59) (rfl) (r_341) rfl
                        have hF_344 := fq_puto hF_333 hI_342 hkx (by decide) (by decide)
                        have hs_345 : NVq I_342 J_331 x b_4 = s_5 := by rw [hI_342]; exact (vq_oI wvqx (ro_o hkx (by decide)) (by decide)).trans hs_335
                        have hs_346 : NWq I_342 J_331 x b_6 = s_7 := by rw [hI_342]; exact (zq_oI wzqx (ro_o hkx (by decide)) (by decide)).trans hs_336
                        have hs_347 : MTq I_342 J_331 x b_8 = s_260 := by rw [hI_342]; exact (mq_uIt wmqx (by decide)).trans hs_337
                        have hs_348 : NRq I_342 J_331 x b_10 b_11 = s_12 := by rw [hI_342]; exact (nq_uIt wnqx (by decide)).trans hs_338
                        have hs_349 : QTq I_342 J_331 x = (QT_.w_om s_13 (x_236)) := by rw [hI_342]; exact (qq_uIt wqqx (by decide)).trans hs_339
                        refine g_goto C (tgt := 166) dX12_readSaid_143 (by decide) ?_
                        refine g_aload_n C 1 dX12_readSaid_166 rfl rfl ?_
                        refine g_dup C dX12_readSaid_167 rfl ?_
                        refine g_getI C K hLx hkx f_12_398 (v := 3) (kp_j hI_342 (by decide) (fq_at hFI_330 hLx hkx (by decide) (by decide) (fq_at hFI_254 hLx hkx (by decide) (by decide) (kp_s hI_245)))) dX12_readSaid_168 ?_
                        refine g_iconst C (v := 1) dX12_readSaid_171 (by decide) ?_
                        refine g_isub C (v := 2) dX12_readSaid_172 (by decide) ?_
                        refine h_putI C K hLx hkx f_12_398 p_12_49 dX12_readSaid_173 (fun I_350 hI_350 => ?_)
                        have hU_351 := iw_put W9 hU_343 hI_350 (ro_o hkx (by decide)) (lo := 0) (hi := 8) (rfl) (rg_w rc_2 (by decide) (by decide)) rfl
                        have hF_352 := fq_puto hF_344 hI_350 hkx (by decide) (by decide)
                        have hs_353 : NVq I_350 J_331 x b_4 = s_5 := by rw [hI_350]; exact (vq_oI wvqx (ro_o hkx (by decide)) (by decide)).trans hs_345
                        have hs_354 : NWq I_350 J_331 x b_6 = s_7 := by rw [hI_350]; exact (zq_oI wzqx (ro_o hkx (by decide)) (by decide)).trans hs_346
                        have hs_355 : MTq I_350 J_331 x b_8 = s_260 := by rw [hI_350]; exact (mq_uIt wmqx (by decide)).trans hs_347
                        have hs_356 : NRq I_350 J_331 x b_10 b_11 = s_12 := by rw [hI_350]; exact (nq_uIt wnqx (by decide)).trans hs_348
                        have hs_357 : QTq I_350 J_331 x = (QT_.w_om s_13 (x_236)) := by rw [hI_350]; exact (qq_uIt wqqx (by decide)).trans hs_349
                        refine g_iload_n C 0 dX12_readSaid_176 rfl rfl ?_
                        exact g_zret (ty := .boolean) (r := 1) B K rfl (rfl) ⟨hU_351, hF_352, hG_334, rg_w rc_1 (by decide) (by decide), (by first | ((try simp only [h_30, (nlt h_30), c_132, h_133, (eq_true h_136), h_217, f_218, h_219, h_235, hx_236, c_259, (eq_true h_265), h_266, h_269, (nle h_269), hx_327, hx_340, if_true, if_false, mqM_tp, mqM_size, mqM_limit, mqM_to, mqM_frm, mqM_kind, mqM_number, mqM_sign, mqM_word, MT_.w_tp, MT_.w_size, MT_.w_limit, MT_.w_to, MT_.w_frm, MT_.w_kind, MT_.w_number, MT_.w_sign, MT_.w_word, nqM_rd, nqM_rn, nqM_taped, nqM_mfault, nqM_mplace, nqM_told, nqM_hl, nqM_hd, NR_.w_rd, NR_.w_rn, NR_.w_taped, NR_.w_mfault, NR_.w_mplace, NR_.w_told, NR_.w_hl, NR_.w_hd, qqM_om, QT_.w_om, vqM_nv, NV_.w_nv, zqM_nw, NW_.w_nw] at hQ_28); (try simp only [h_30, (nlt h_30), c_132, h_133, (eq_true h_136), h_217, f_218, h_219, h_235, hx_236, c_259, (eq_true h_265), h_266, h_269, (nle h_269), hx_327, hx_340, if_true, if_false, mqM_tp, mqM_size, mqM_limit, mqM_to, mqM_frm, mqM_kind, mqM_number, mqM_sign, mqM_word, MT_.w_tp, MT_.w_size, MT_.w_limit, MT_.w_to, MT_.w_frm, MT_.w_kind, MT_.w_number, MT_.w_sign, MT_.w_word, nqM_rd, nqM_rn, nqM_taped, nqM_mfault, nqM_mplace, nqM_told, nqM_hl, nqM_hd, NR_.w_rd, NR_.w_rn, NR_.w_taped, NR_.w_mfault, NR_.w_mplace, NR_.w_told, NR_.w_hl, NR_.w_hd, qqM_om, QT_.w_om, vqM_nv, NV_.w_nv, zqM_nw, NW_.w_nw] at u_29); simp only [mSd0, mSd1, mSd2, mBadQ, evqx, hs_353, hs_5, ezqx, hs_354, hs_7, emqx, hs_355, hs_9, enqx, hs_356, hs_12, eqqx, hs_357, hs_13, hQ_28, u_29, h_30, (nlt h_30), c_132, h_133, (eq_true h_136), h_217, f_218, h_219, h_235, hx_236, c_259, (eq_true h_265), h_266, h_269, (nle h_269), hx_327, hx_340, if_true, if_false, mqM_tp, mqM_size, mqM_limit, mqM_to, mqM_frm, mqM_kind, mqM_number, mqM_sign, mqM_word, MT_.w_tp, MT_.w_size, MT_.w_limit, MT_.w_to, MT_.w_frm, MT_.w_kind, MT_.w_number, MT_.w_sign, MT_.w_word, nqM_rd, nqM_rn, nqM_taped, nqM_mfault, nqM_mplace, nqM_told, nqM_hl, nqM_hd, NR_.w_rd, NR_.w_rn, NR_.w_taped, NR_.w_mfault, NR_.w_mplace, NR_.w_told, NR_.w_hl, NR_.w_hd, qqM_om, QT_.w_om, vqM_nv, NV_.w_nv, zqM_nw, NW_.w_nw]; done) | exact absurd (nle h_269) h_30), (fun _ => (sz_m hx_1 hx_2 (kp_j hI_350 (by decide) (kp_j hI_342 (by decide) hx_340)) (kp_j hI_350 (by decide) (kp_j hI_342 (by decide) (fq_at hFI_330 hLx hkx (by decide) (by decide) (fq_at hFI_254 hLx hkx (by decide) (by decide) (kp_j hI_245 (by decide) (kp_s hI_237)))))) (kp_j hI_350 (by decide) (kp_s hI_342)) ⟨by have := tx_340; have := (ti_k tx_236 rc_1); omega, by have := tx_340; have := (ti_k tx_236 rc_1); omega, by have := tx_340; have := (ti_k tx_236 rc_1); omega, by have := tx_340; have := (ti_k tx_236 rc_1); omega⟩)), (kp_s hI_350)⟩ dX12_readSaid_177
                    · skip
                      have r_358 := (⟨(r_127).1, (eq_rg (h_266) rc_18).2⟩ : Rg 18 18 v_15)
                      refine g_aload_n C 1 dX12_readSaid_114 rfl rfl ?_
                      refine g_callVI C K (c_X12_readNot_3 W9 hLx hkx   hUI_254  (by rw [(fq_at hFI_254 hLx hkx (by decide) (by decide) (kp_j hI_245 (by decide) (kp_j hI_237 (by decide) q_20))), (fq_at hFI_254 hLx hkx (by decide) (by decide) (kp_j hI_245 (by decide) (kp_s hI_237)))]; have := (ti_k tx_236 rc_1); omega) ((fq_at hFI_254 hLx hkx (by decide) (by decide) (kp_s hI_245)))) hLx hkx (by decide) rfl v_12_404 rfl ⟨rfl, rfl⟩ ⟨Nat.le_of_ble_eq_true rfl, Nat.le_of_ble_eq_true rfl⟩ (Nat.le_of_ble_eq_true rfl) ⟨Nat.le_of_ble_eq_true rfl, Nat.le_of_ble_eq_true rfl⟩ dX12_readSaid_115 rfl (st := []) (fun x_359 I_360 J_361 h_362 => ?_)
                      obtain ⟨hUI_360, hFI_360, hGJ_361, rx_359, fx_359, ex_359⟩ := h_362
                      have hF_363 := fq_tr hF_257 hFI_360 (by decide)
                      have hG_364 := fq_tr hG_258 hGJ_361 (by decide)
                      obtain ⟨s_366, hs_366⟩ : ∃ z, MTq I_360 J_361 x b_8 = z := ⟨_, rfl⟩
                      obtain ⟨s_367, hs_367⟩ : ∃ z, NRq I_360 J_361 x b_10 b_11 = z := ⟨_, rfl⟩
                      obtain ⟨s_368, hs_368⟩ : ∃ z, QTq I_360 J_361 x = z := ⟨_, rfl⟩
                      have c_365 : mNtK 5 (s_5) (s_7) (s_260) (s_12) ((QT_.w_om s_13 (x_236))) = (x_359, s_366, s_367, s_368) := by have q := fx_359; simp only [evqx, ezqx, emqx, enqx, eqqx, hs_261, hs_262, hs_260, hs_263, hs_264, hs_366, hs_367, hs_368] at q; exact q.symm
                      have hs_369 : NVq I_360 J_361 x b_4 = s_5 := (vq_fq wvqx hFI_360 hGJ_361 (by decide) (by decide)).trans hs_261
                      have hs_370 : NWq I_360 J_361 x b_6 = s_7 := (zq_fq wzqx hFI_360 hGJ_361 (by decide) (by decide)).trans hs_262
                      obtain ⟨x_371, hx_371, rx_371⟩ := ex_getw (I := I_360) (a := x) (j := 47) (lo := 0) (hi := 60) hUI_360.1 hLx (ro_o hkx (by decide)) rfl
                      obtain ⟨x_372, hx_372, rx_372⟩ := ex_getw (I := I_360) (a := x) (j := 50) (lo := 0) (hi := 59) hUI_360.1 hLx (ro_o hkx (by decide)) rfl
                      obtain ⟨x_373, hx_373, rx_373⟩ := ex_getw (I := I_360) (a := x) (j := 48) (lo := 0) (hi := 20) hUI_360.1 hLx (ro_o hkx (by decide)) rfl
                      have f_374 : s_368.om = x_373 := (congrArg QT_.om hs_368).symm.trans hx_373
                      refine g_istore_n C dX12_readSaid_118 rfl (by decide) (lo2 := [(3, .int x_359), (0, .ref x), (1, .int v_14), (2, .int v_15)]) rfl ?_
                      refine g_goto C (tgt := 166) dX12_readSaid_119 (by decide) ?_
                      refine g_aload_n C 1 dX12_readSaid_166 rfl rfl ?_
                      refine g_dup C dX12_readSaid_167 rfl ?_
                      refine g_getI C K hLx hkx f_12_398 (v := 3) ex_359.2 dX12_readSaid_168 ?_
                      refine g_iconst C (v := 1) dX12_readSaid_171 (by decide) ?_
                      refine g_isub C (v := 2) dX12_readSaid_172 (by decide) ?_
                      refine h_putI C K hLx hkx f_12_398 p_12_49 dX12_readSaid_173 (fun I_375 hI_375 => ?_)
                      have hU_376 := iw_put W9 hUI_360 hI_375 (ro_o hkx (by decide)) (lo := 0) (hi := 8) (rfl) (rg_w rc_2 (by decide) (by decide)) rfl
                      have hF_377 := fq_puto hF_363 hI_375 hkx (by decide) (by decide)
                      have hs_378 : NVq I_375 J_361 x b_4 = s_5 := by rw [hI_375]; exact (vq_oI wvqx (ro_o hkx (by decide)) (by decide)).trans hs_369
                      have hs_379 : NWq I_375 J_361 x b_6 = s_7 := by rw [hI_375]; exact (zq_oI wzqx (ro_o hkx (by decide)) (by decide)).trans hs_370
                      have hs_380 : MTq I_375 J_361 x b_8 = s_366 := by rw [hI_375]; exact (mq_uIt wmqx (by decide)).trans hs_366
                      have hs_381 : NRq I_375 J_361 x b_10 b_11 = s_367 := by rw [hI_375]; exact (nq_uIt wnqx (by decide)).trans hs_367
                      have hs_382 : QTq I_375 J_361 x = s_368 := by rw [hI_375]; exact (qq_uIt wqqx (by decide)).trans hs_368
                      refine g_iload_n C 0 dX12_readSaid_176 rfl rfl ?_
                      exact g_zret (ty := .boolean) (r := x_359) B K rfl (nar_z (rx_359)) ⟨hU_376, hF_377, hG_364, rx_359, (by (try simp only [h_30, (nlt h_30), c_132, h_133, (eq_true h_136), h_217, f_218, h_219, h_235, hx_236, c_259, (eq_true h_265), (eq_true h_266), hx_371, hx_372, hx_373, f_374, if_true, if_false, mqM_tp, mqM_size, mqM_limit, mqM_to, mqM_frm, mqM_kind, mqM_number, mqM_sign, mqM_word, MT_.w_tp, MT_.w_size, MT_.w_limit, MT_.w_to, MT_.w_frm, MT_.w_kind, MT_.w_number, MT_.w_sign, MT_.w_word, nqM_rd, nqM_rn, nqM_taped, nqM_mfault, nqM_mplace, nqM_told, nqM_hl, nqM_hd, NR_.w_rd, NR_.w_rn, NR_.w_taped, NR_.w_mfault, NR_.w_mplace, NR_.w_told, NR_.w_hl, NR_.w_hd, qqM_om, QT_.w_om, vqM_nv, NV_.w_nv, zqM_nw, NW_.w_nw] at hQ_28); (try simp only [h_30, (nlt h_30), c_132, h_133, (eq_true h_136), h_217, f_218, h_219, h_235, hx_236, c_259, (eq_true h_265), (eq_true h_266), hx_371, hx_372, hx_373, f_374, if_true, if_false, mqM_tp, mqM_size, mqM_limit, mqM_to, mqM_frm, mqM_kind, mqM_number, mqM_sign, mqM_word, MT_.w_tp, MT_.w_size, MT_.w_limit, MT_.w_to, MT_.w_frm, MT_.w_kind, MT_.w_number, MT_.w_sign, MT_.w_word, nqM_rd, nqM_rn, nqM_taped, nqM_mfault, nqM_mplace, nqM_told, nqM_hl, nqM_hd, NR_.w_rd, NR_.w_rn, NR_.w_taped, NR_.w_mfault, NR_.w_mplace, NR_.w_told, NR_.w_hl, NR_.w_hd, qqM_om, QT_.w_om, vqM_nv, NV_.w_nv, zqM_nw, NW_.w_nw] at u_29); (try simp only [h_30, (nlt h_30), c_132, h_133, (eq_true h_136), h_217, f_218, h_219, h_235, hx_236, c_259, (eq_true h_265), (eq_true h_266), hx_371, hx_372, hx_373, f_374, if_true, if_false, mqM_tp, mqM_size, mqM_limit, mqM_to, mqM_frm, mqM_kind, mqM_number, mqM_sign, mqM_word, MT_.w_tp, MT_.w_size, MT_.w_limit, MT_.w_to, MT_.w_frm, MT_.w_kind, MT_.w_number, MT_.w_sign, MT_.w_word, nqM_rd, nqM_rn, nqM_taped, nqM_mfault, nqM_mplace, nqM_told, nqM_hl, nqM_hd, NR_.w_rd, NR_.w_rn, NR_.w_taped, NR_.w_mfault, NR_.w_mplace, NR_.w_told, NR_.w_hl, NR_.w_hd, qqM_om, QT_.w_om, vqM_nv, NV_.w_nv, zqM_nw, NW_.w_nw] at c_365); simp only [mSd0, mSd1, mSd2, mBadQ, evqx, hs_378, hs_5, ezqx, hs_379, hs_7, emqx, hs_380, hs_9, enqx, hs_381, hs_12, eqqx, hs_382, hs_13, hQ_28, u_29, h_30, (nlt h_30), c_132, h_133, (eq_true h_136), h_217, f_218, h_219, h_235, hx_236, c_259, (eq_true h_265), (eq_true h_266), c_365, hx_371, hx_372, hx_373, f_374, if_true, if_false, mqM_tp, mqM_size, mqM_limit, mqM_to, mqM_frm, mqM_kind, mqM_number, mqM_sign, mqM_word, MT_.w_tp, MT_.w_size, MT_.w_limit, MT_.w_to, MT_.w_frm, MT_.w_kind, MT_.w_number, MT_.w_sign, MT_.w_word, nqM_rd, nqM_rn, nqM_taped, nqM_mfault, nqM_mplace, nqM_told, nqM_hl, nqM_hd, NR_.w_rd, NR_.w_rn, NR_.w_taped, NR_.w_mfault, NR_.w_mplace, NR_.w_told, NR_.w_hl, NR_.w_hd, qqM_om, QT_.w_om, vqM_nv, NV_.w_nv, zqM_nw, NW_.w_nw]), (fun hq => by have n_383 : ¬ x_359 = 0 := hq; have r_384 := ne_lo (lo := 1) n_383 rx_359 rc_0 rfl (by decide); have f_385 := sz_v (fq_at hFI_254 hLx hkx (by decide) (by decide) (kp_j hI_245 (by decide) (kp_j hI_237 (by decide) q_20))) (fq_at hFI_254 hLx hkx (by decide) (by decide) (kp_j hI_245 (by decide) (kp_s hI_237))) hx_371 hx_373 hx_372 (ex_359.1 n_383); have f_386 := (ti_k tx_236 rc_1); exact (sz_m hx_1 hx_2 (kp_j hI_375 (by decide) hx_371) (kp_j hI_375 (by decide) hx_373) (kp_j hI_375 (by decide) hx_372) ⟨by omega, by omega, by omega, by omega⟩)), (kp_s hI_375)⟩ dX12_readSaid_177
                  · skip
                    exact ne_no (h_265) r_216 rc_0
                · skip
                  exact absurd (h_235) (by decide)
            · skip
              have r_387 := lt_r (lo := 28) (nle h_217) rc_27 r_127 (by decide)
              exact rg_no r_387 (by decide)
        · skip
          have r_388 := (⟨(rx_128).1, (eq_rg (h_133) rc_0).2⟩ : Rg 0 0 x_128)
          obtain ⟨x_389, hx_389, rx_389, tx_389⟩ := ex_add (y := 1) 19 28 r_127 rc_1 (by decide) (by decide) (by decide) (by decide)
          refine g_iinc C dX12_readSaid_24 (k := 2) (v := x_389) rfl hx_389 (by decide) (lo2 := [(2, .int x_389), (0, .ref x), (1, .int v_14)]) rfl ?_
          refine g_goto C (tgt := 10) dX12_readSaid_27 (by decide) ?_
          have f_390 : s_13.om = v_17 := (congrArg QT_.om hs_13).symm.trans q_21
          refine g_lo (is := [1, 2, 0]) (lo2 := [(0, .ref x), (1, .int v_14), (2, .int x_389)]) rfl ?_
          exact ih_10 v_14 (rv_14) x_389 (rg_w rx_389 (by decide) (by decide)) v_16 (rv_16) v_17 (rv_17) v_18 (rv_18) v_19 (rv_19) q_20 q_21 q_22 q_23 q_24 (by (try simp only [h_30, (nlt h_30), c_132, (eq_true h_133), hx_389, if_true, if_false, mqM_tp, mqM_size, mqM_limit, mqM_to, mqM_frm, mqM_kind, mqM_number, mqM_sign, mqM_word, MT_.w_tp, MT_.w_size, MT_.w_limit, MT_.w_to, MT_.w_frm, MT_.w_kind, MT_.w_number, MT_.w_sign, MT_.w_word, nqM_rd, nqM_rn, nqM_taped, nqM_mfault, nqM_mplace, nqM_told, nqM_hl, nqM_hd, NR_.w_rd, NR_.w_rn, NR_.w_taped, NR_.w_mfault, NR_.w_mplace, NR_.w_told, NR_.w_hl, NR_.w_hd, qqM_om, QT_.w_om, vqM_nv, NV_.w_nv, zqM_nw, NW_.w_nw] at hQ_28); (try simp only [h_30, (nlt h_30), c_132, (eq_true h_133), hx_389, if_true, if_false, mqM_tp, mqM_size, mqM_limit, mqM_to, mqM_frm, mqM_kind, mqM_number, mqM_sign, mqM_word, MT_.w_tp, MT_.w_size, MT_.w_limit, MT_.w_to, MT_.w_frm, MT_.w_kind, MT_.w_number, MT_.w_sign, MT_.w_word, nqM_rd, nqM_rn, nqM_taped, nqM_mfault, nqM_mplace, nqM_told, nqM_hl, nqM_hd, NR_.w_rd, NR_.w_rn, NR_.w_taped, NR_.w_mfault, NR_.w_mplace, NR_.w_told, NR_.w_hl, NR_.w_hd, qqM_om, QT_.w_om, vqM_nv, NV_.w_nv, zqM_nw, NW_.w_nw] at u_29); simp only [mSd0, mSd1, mSd2, mBadQ, evqx, hs_5, ezqx, hs_7, emqx, hs_9, enqx, hs_12, eqqx, hs_13, hQ_28, u_29, h_30, (nlt h_30), c_132, (eq_true h_133), hx_389, if_true, if_false, mqM_tp, mqM_size, mqM_limit, mqM_to, mqM_frm, mqM_kind, mqM_number, mqM_sign, mqM_word, MT_.w_tp, MT_.w_size, MT_.w_limit, MT_.w_to, MT_.w_frm, MT_.w_kind, MT_.w_number, MT_.w_sign, MT_.w_word, nqM_rd, nqM_rn, nqM_taped, nqM_mfault, nqM_mplace, nqM_told, nqM_hl, nqM_hd, NR_.w_rd, NR_.w_rn, NR_.w_taped, NR_.w_mfault, NR_.w_mplace, NR_.w_told, NR_.w_hl, NR_.w_hd, qqM_om, QT_.w_om, vqM_nv, NV_.w_nv, zqM_nw, NW_.w_nw]) ⟨by omega, by omega⟩ (ms_1 hm_27 (ti_k tx_389 rc_1) (by decide))
  refine g_aload_n C 0 dX12_readSaid_0 rfl rfl ?_
  refine g_bipush C (v := 40) dX12_readSaid_1 (by decide) ?_
  obtain ⟨x_391, hx_391, rx_391⟩ := ex_getw (I := I) (a := x) (j := 7) (lo := 0) (hi := 4) hU.1 hLx (ro_o hkx (by decide)) rfl
  have f_392 : s_9.kind = x_391 := (congrArg MT_.kind hs_9).symm.trans hx_391
  refine g_callVI C K (c_X12_isSign W9 hLx hkx 40 (rg_w rc_40 (by decide) (by decide)) hU) hLx hkx (by decide) rfl v_12_159 rfl ⟨rfl, rfl⟩ ⟨Nat.le_of_ble_eq_true rfl, Nat.le_of_ble_eq_true rfl⟩ (Nat.le_of_ble_eq_true rfl) ⟨Nat.le_of_ble_eq_true rfl, Nat.le_of_ble_eq_true rfl⟩ dX12_readSaid_3 rfl (st := []) (fun x_393 I_394 J_395 h_396 => ?_)
  obtain ⟨rfl, rfl, rx_393, fx_393, ex_393⟩ := h_396
  have c_397 : mIsSign (40) (s_9) = x_393 := by have q := fx_393; simp only [emqx, hs_9] at q; exact q.symm
  have q_398 := hx_391
  refine g_istore_n C dX12_readSaid_6 rfl (by decide) (lo2 := [(1, .int x_393), (0, .ref x)]) rfl ?_
  refine g_bipush C (v := 18) dX12_readSaid_7 (by decide) ?_
  refine g_istore_n C dX12_readSaid_9 rfl (by decide) (lo2 := [(2, .int 18), (1, .int x_393), (0, .ref x)]) rfl ?_
  have f_399 : s_13.om = x_2 := (congrArg QT_.om hs_13).symm.trans hx_2
  refine g_lo (is := [2, 1, 0]) (lo2 := [(0, .ref x), (1, .int x_393), (2, .int 18)]) rfl ?_
  exact l_10 11 x_393 (rx_393) 18 (rg_w rc_18 (by decide) (by decide)) x_1 (rx_1) x_2 (rx_2) x_3 (rx_3) x_391 (rx_391) hx_1 hx_2 hwi hx_3 hx_391 (by simp only [mSaid_k6, mSd0, mSd1, mSd2, mBadQ, evqx, hs_5, ezqx, hs_7, emqx, hs_9, enqx, hs_12, eqqx, hs_13, hx_1, hx_2, hx_3, hx_391, f_392, c_397, if_true, if_false, mqM_tp, mqM_size, mqM_limit, mqM_to, mqM_frm, mqM_kind, mqM_number, mqM_sign, mqM_word, MT_.w_tp, MT_.w_size, MT_.w_limit, MT_.w_to, MT_.w_frm, MT_.w_kind, MT_.w_number, MT_.w_sign, MT_.w_word, nqM_rd, nqM_rn, nqM_taped, nqM_mfault, nqM_mplace, nqM_told, nqM_hl, nqM_hd, NR_.w_rd, NR_.w_rn, NR_.w_taped, NR_.w_mfault, NR_.w_mplace, NR_.w_told, NR_.w_hl, NR_.w_hd, qqM_om, QT_.w_om, vqM_nv, NV_.w_nv, zqM_nw, NW_.w_nw]) ⟨by omega, by omega⟩ (ms_s (a := 18) (b := 28) (N := 11) (rg_w rc_18 (by decide) (by decide)) (by decide))
set_option maxRecDepth 100000 in
set_option maxHeartbeats 8000000 in
theorem c_X12_readAnd_2 {l : Launch} {D : va_G} {cy : Nat → ClassId} {L : List Nat} {κ ln : Nat → Nat} {R : Nat → Nat → Option Nat} {I : Nat → Nat → Int32} {J : Nat → Nat → Int64} {ow : Nat → Nat × Nat} (W9 : ∀ a ∈ L, Shp L κ ln R ow a) {x : Nat} (hLx : x ∈ L) (hkx : κ x = 12) (hU : Iw L κ R ow I) (hn : (I x 47).toInt ≤ 2 * (I x 48).toInt) (hwi : I x 49 = 2) : CtI l yX12_readAnd cX12_readAnd 2 (some .boolean) { frames := 28, cells := 0, slots := 0, locals := 602 } D cy L κ ln R I J [.ref x] (fun r I2 J2 => Iw L κ R ow I2 ∧ Fq L κ ow [1205, 1206, 1207, 1208, 1209, 1210, 1211, 1213, 1247, 1248, 1249, 1250, 86600] I I2 ∧ Fq L κ ow [1212] J J2 ∧ Rg 0 1 r ∧ ((r, MTf R I2 J2 x, NRf R I2 J2 x, QTf R I2 J2 x) = mAndK 6 (NVf R I J x) (NWf R I J x) (MTf R I J x) (NRf R I J x) (QTf R I J x)) ∧ (¬ r = 0 → Sz_ x I I2 1) ∧ (I2 x 49 = 2)) := by
  obtain ⟨x_1, hx_1, rx_1⟩ := ex_getw (I := I) (a := x) (j := 47) (lo := 0) (hi := 60) hU.1 hLx (ro_o hkx (by decide)) rfl
  obtain ⟨x_2, hx_2, rx_2⟩ := ex_getw (I := I) (a := x) (j := 48) (lo := 0) (hi := 20) hU.1 hLx (ro_o hkx (by decide)) rfl
  rw [hx_1, hx_2] at hn
  obtain ⟨x_3, hx_3, rx_3⟩ := ex_getw (I := I) (a := x) (j := 50) (lo := 0) (hi := 59) hU.1 hLx (ro_o hkx (by decide)) rfl
  refine CtI.of (by decide +kernel) (Nat.le_of_ble_eq_true rfl) ?_
  intro p e s m below meth c B K
  have C := B.1
  have hF : Fq L κ ow [1205, 1206, 1207, 1208, 1209, 1210, 1211, 1213, 1247, 1248, 1249, 1250, 86600] I I := fq_rf
  have hG : Fq L κ ow [1212] J J := fq_rf
  obtain ⟨b_4, hb_4, hb_4L, hb_4k, hb_4n, hb_4o⟩ := shp_a (W9 x hLx) hkx 19 15 13 rfl (by decide)
  have evqx : ∀ I J, NVf R I J x = NVq I J x b_4 := fun I J => by simp only [NVf, rr_, Option.getD_some, hb_4]
  have wvqx : vqw_ L κ ow x b_4 := ⟨⟨hLx, hb_4L⟩, ⟨(ro_o hkx (by decide)), (ro_a hb_4k (by decide) hb_4o hkx rfl)⟩⟩
  obtain ⟨s_5, hs_5⟩ : ∃ z, NVq I J x b_4 = z := ⟨_, rfl⟩
  obtain ⟨b_6, hb_6, hb_6L, hb_6k, hb_6n, hb_6o⟩ := shp_a (W9 x hLx) hkx 14 14 389 rfl (by decide)
  have ezqx : ∀ I J, NWf R I J x = NWq I J x b_6 := fun I J => by simp only [NWf, rr_, Option.getD_some, hb_6]
  have wzqx : zqw_ L κ ow x b_6 := ⟨⟨hLx, hb_6L⟩, ⟨(ro_o hkx (by decide)), (ro_a hb_6k (by decide) hb_6o hkx rfl)⟩⟩
  obtain ⟨s_7, hs_7⟩ : ∃ z, NWq I J x b_6 = z := ⟨_, rfl⟩
  obtain ⟨b_8, hb_8, hb_8L, hb_8k, hb_8n, hb_8o⟩ := shp_a (W9 x hLx) hkx 1 14 940 rfl (by decide)
  have emqx : ∀ I J, MTf R I J x = MTq I J x b_8 := fun I J => by simp only [MTf, rr_, Option.getD_some, hb_8]
  have wmqx : mqw_ L κ ow x b_8 := ⟨⟨hLx, hb_8L⟩, ⟨(ro_o hkx (by decide)), (ro_a hb_8k (by decide) hb_8o hkx rfl)⟩⟩
  obtain ⟨s_9, hs_9⟩ : ∃ z, MTq I J x b_8 = z := ⟨_, rfl⟩
  obtain ⟨b_10, hb_10, hb_10L, hb_10k, hb_10n, hb_10o⟩ := shp_a (W9 x hLx) hkx 15 14 72 rfl (by decide)
  obtain ⟨b_11, hb_11, hb_11L, hb_11k, hb_11n, hb_11o⟩ := shp_a (W9 x hLx) hkx 20 15 13 rfl (by decide)
  have enqx : ∀ I J, NRf R I J x = NRq I J x b_10 b_11 := fun I J => by simp only [NRf, rr_, Option.getD_some, hb_10, hb_11]
  have wnqx : nqw_ L κ ow x b_10 b_11 := ⟨⟨hLx, hb_10L, hb_11L⟩, ⟨(ro_o hkx (by decide)), (ro_a hb_10k (by decide) hb_10o hkx rfl), (ro_a hb_11k (by decide) hb_11o hkx rfl)⟩⟩
  obtain ⟨s_12, hs_12⟩ : ∃ z, NRq I J x b_10 b_11 = z := ⟨_, rfl⟩
  have eqqx : ∀ I J, QTf R I J x = QTq I J x := fun I J => by simp only [QTf, rr_, Option.getD_some]
  have wqqx : qqw_ L κ ow x := ⟨hLx, (ro_o hkx (by decide))⟩
  obtain ⟨s_13, hs_13⟩ : ∃ z, QTq I J x = z := ⟨_, rfl⟩
  refine g_lo (is := [0]) (lo2 := [(0, .ref x)]) rfl ?_
  have l_14 : ∀ (n_14 : Nat) (I_14 : Nat → Nat → Int32) (J_15 : Nat → Nat → Int64) (hU_16 : Iw L κ R ow I_14) (hF_17 : Fq L κ ow [1205, 1206, 1207, 1208, 1209, 1210, 1211, 1213, 1247, 1248, 1249, 1250, 86600] I I_14) (hG_18 : Fq L κ ow [1212] J J_15) (v_19 : Int32) (rv_19 : Rg 0 59 v_19) (v_20 : Int32) (rv_20 : Rg 0 60 v_20) (v_21 : Int32) (rv_21 : Rg 0 20 v_21) (v_22 : Int32) (rv_22 : Rg 0 59 v_22) (q_23 : I_14 x 47 = v_20) (q_24 : I_14 x 48 = v_21) (q_25 : I_14 x 49 = 2) (q_26 : I_14 x 50 = v_22) (hq_27 : mLp (mSaid 6 (NVq I_14 J_15 x b_4) (NWq I_14 J_15 x b_6)) 17 n_14 (MTq I_14 J_15 x b_8) (NRq I_14 J_15 x b_10 b_11) (QTq I_14 J_15 x) = mAndK 6 s_5 s_7 s_9 s_12 s_13) (hj_28 : x_1.toInt ≤ v_20.toInt ∧ x_2.toInt + 1 ≤ v_21.toInt ∧ 2 * x_2.toInt - x_1.toInt + 1 ≤ 2 * v_21.toInt - v_20.toInt ∧ v_19.toInt < v_20.toInt) (hm_29 : 20 < v_21.toInt + (n_14 : Int)), WG p l e { frames := 28, cells := 0, slots := 0, locals := 602 } s m ([.ref x] : List Value).toArray below meth c 2 0 0 (MQ below (Qi_ D cy L κ ln R (fun r I2 J2 => Iw L κ R ow I2 ∧ Fq L κ ow [1205, 1206, 1207, 1208, 1209, 1210, 1211, 1213, 1247, 1248, 1249, 1250, 86600] I I2 ∧ Fq L κ ow [1212] J J2 ∧ Rg 0 1 r ∧ ((r, MTf R I2 J2 x, NRf R I2 J2 x, QTf R I2 J2 x) = mAndK 6 (NVf R I J x) (NWf R I J x) (MTf R I J x) (NRf R I J x) (QTf R I J x)) ∧ (¬ r = 0 → Sz_ x I I2 1) ∧ (I2 x 49 = 2))) ([.ref x] : List Value).toArray s 0 0 (Al_ L)) D cy (Al_ L) s.heap L κ ln R I_14 J_15 14 [(0, .ref x), (1, .int v_19)] [] := by
    intro n_14
    induction n_14 with
    | zero =>
      intro I_14 J_15 hU_16 hF_17 hG_18 v_19 rv_19 v_20 rv_20 v_21 rv_21 v_22 rv_22 q_23 q_24 q_25 q_26 hq_27 hj_28 hm_29
      exact absurd hm_29 (by have := (rv_21).2; omega)
    | succ n_14 ih_14 =>
      intro I_14 J_15 hU_16 hF_17 hG_18 v_19 rv_19 v_20 rv_20 v_21 rv_21 v_22 rv_22 q_23 q_24 q_25 q_26 hq_27 hj_28 hm_29
      obtain ⟨s_30, hs_30⟩ : ∃ z, NVq I_14 J_15 x b_4 = z := ⟨_, rfl⟩
      obtain ⟨s_31, hs_31⟩ : ∃ z, NWq I_14 J_15 x b_6 = z := ⟨_, rfl⟩
      obtain ⟨s_32, hs_32⟩ : ∃ z, MTq I_14 J_15 x b_8 = z := ⟨_, rfl⟩
      obtain ⟨s_33, hs_33⟩ : ∃ z, NRq I_14 J_15 x b_10 b_11 = z := ⟨_, rfl⟩
      obtain ⟨s_34, hs_34⟩ : ∃ z, QTq I_14 J_15 x = z := ⟨_, rfl⟩
      simp only [hs_30, hs_31, hs_32, hs_33, hs_34] at hq_27
      have hQ_35 := hq_27.symm
      have u_36 := mLp_eq (rd := mSaid 6 s_30 s_31) (k := 17) (f := n_14) (m := s_32) (n := s_33) (q := s_34)
      refine g_aload_n C 0 dX12_readAnd_14 rfl rfl ?_
      refine g_bipush C (v := 17) dX12_readAnd_15 (by decide) ?_
      refine g_callVI C K (c_X12_isWord W9 hLx hkx 17 (rg_w rc_17 (by decide) (by decide)) hU_16) hLx hkx (by decide) rfl v_12_191 rfl ⟨rfl, rfl⟩ ⟨Nat.le_of_ble_eq_true rfl, Nat.le_of_ble_eq_true rfl⟩ (Nat.le_of_ble_eq_true rfl) ⟨Nat.le_of_ble_eq_true rfl, Nat.le_of_ble_eq_true rfl⟩ dX12_readAnd_17 rfl (st := []) (fun x_37 I_38 J_39 h_40 => ?_)
      obtain ⟨rfl, rfl, rx_37, fx_37⟩ := h_40
      have c_41 : mIsWord (17) (s_32) = x_37 := by have q := fx_37; simp only [emqx, hs_32] at q; exact q.symm
      refine g_if_eq C (tgt := 51) dX12_readAnd_20 (by decide) (fun h_42 => ?_) (fun h_42 => ?_)
      · skip
        have r_43 := (⟨(rx_37).1, (eq_rg (h_42) rc_0).2⟩ : Rg 0 0 x_37)
        refine g_aload_n C 0 dX12_readAnd_51 rfl rfl ?_
        refine g_iload_n C 1 dX12_readAnd_52 rfl rfl ?_
        refine h_putI C K hLx hkx f_12_386 p_12_50 dX12_readAnd_53 (fun I_44 hI_44 => ?_)
        have hU_45 := iw_put W9 hU_16 hI_44 (ro_o hkx (by decide)) (lo := 0) (hi := 59) (rfl) (rv_19) rfl
        have hF_46 := fq_puto hF_17 hI_44 hkx (by decide) (by decide)
        have hs_47 : NVq I_44 J_15 x b_4 = s_30 := by rw [hI_44]; exact (vq_oI wvqx (ro_o hkx (by decide)) (by decide)).trans hs_30
        have hs_48 : NWq I_44 J_15 x b_6 = s_31 := by rw [hI_44]; exact (zq_oI wzqx (ro_o hkx (by decide)) (by decide)).trans hs_31
        have hs_49 : MTq I_44 J_15 x b_8 = s_32 := by rw [hI_44]; exact (mq_uIt wmqx (by decide)).trans hs_32
        have hs_50 : NRq I_44 J_15 x b_10 b_11 = s_33 := by rw [hI_44]; exact (nq_uIt wnqx (by decide)).trans hs_33
        have hs_51 : QTq I_44 J_15 x = s_34 := by rw [hI_44]; exact (qq_uIt wqqx (by decide)).trans hs_34
        refine g_iconst C (v := 1) dX12_readAnd_56 (by decide) ?_
        have f_52 : s_34.om = v_21 := (congrArg QT_.om hs_51).symm.trans (kp_j hI_44 (by decide) q_24)
        exact g_zret (ty := .boolean) (r := 1) B K rfl (rfl) ⟨hU_45, hF_46, hG_18, rg_w rc_1 (by decide) (by decide), (by (try simp only [c_41, (eq_true h_42), if_true, if_false, mqM_tp, mqM_size, mqM_limit, mqM_to, mqM_frm, mqM_kind, mqM_number, mqM_sign, mqM_word, MT_.w_tp, MT_.w_size, MT_.w_limit, MT_.w_to, MT_.w_frm, MT_.w_kind, MT_.w_number, MT_.w_sign, MT_.w_word, nqM_rd, nqM_rn, nqM_taped, nqM_mfault, nqM_mplace, nqM_told, nqM_hl, nqM_hd, NR_.w_rd, NR_.w_rn, NR_.w_taped, NR_.w_mfault, NR_.w_mplace, NR_.w_told, NR_.w_hl, NR_.w_hd, qqM_om, QT_.w_om, vqM_nv, NV_.w_nv, zqM_nw, NW_.w_nw] at hQ_35); (try simp only [c_41, (eq_true h_42), if_true, if_false, mqM_tp, mqM_size, mqM_limit, mqM_to, mqM_frm, mqM_kind, mqM_number, mqM_sign, mqM_word, MT_.w_tp, MT_.w_size, MT_.w_limit, MT_.w_to, MT_.w_frm, MT_.w_kind, MT_.w_number, MT_.w_sign, MT_.w_word, nqM_rd, nqM_rn, nqM_taped, nqM_mfault, nqM_mplace, nqM_told, nqM_hl, nqM_hd, NR_.w_rd, NR_.w_rn, NR_.w_taped, NR_.w_mfault, NR_.w_mplace, NR_.w_told, NR_.w_hl, NR_.w_hd, qqM_om, QT_.w_om, vqM_nv, NV_.w_nv, zqM_nw, NW_.w_nw] at u_36); simp only [evqx, hs_47, hs_5, ezqx, hs_48, hs_7, emqx, hs_49, hs_9, enqx, hs_50, hs_12, eqqx, hs_51, hs_13, hQ_35, u_36, c_41, (eq_true h_42), if_true, if_false, mqM_tp, mqM_size, mqM_limit, mqM_to, mqM_frm, mqM_kind, mqM_number, mqM_sign, mqM_word, MT_.w_tp, MT_.w_size, MT_.w_limit, MT_.w_to, MT_.w_frm, MT_.w_kind, MT_.w_number, MT_.w_sign, MT_.w_word, nqM_rd, nqM_rn, nqM_taped, nqM_mfault, nqM_mplace, nqM_told, nqM_hl, nqM_hd, NR_.w_rd, NR_.w_rn, NR_.w_taped, NR_.w_mfault, NR_.w_mplace, NR_.w_told, NR_.w_hl, NR_.w_hd, qqM_om, QT_.w_om, vqM_nv, NV_.w_nv, zqM_nw, NW_.w_nw]), (fun _ => (sz_m hx_1 hx_2 (kp_j hI_44 (by decide) q_23) (kp_j hI_44 (by decide) q_24) (kp_s hI_44) ⟨by omega, by omega, by omega, by omega⟩)), (kp_j hI_44 (by decide) q_25)⟩ dX12_readAnd_57
      · skip
        have n_53 : ¬ x_37 = 0 := h_42
        have r_54 := ne_lo (lo := 1) n_53 rx_37 rc_0 rfl (by decide)
        refine g_aload_n C 0 dX12_readAnd_23 rfl rfl ?_
        refine g_callVV C K (c_X12_go W9 hLx hkx   hU_16) hLx hkx (by decide) rfl v_12_156 rfl ⟨rfl, rfl⟩ ⟨Nat.le_of_ble_eq_true rfl, Nat.le_of_ble_eq_true rfl⟩ (Nat.le_of_ble_eq_true rfl) ⟨Nat.le_of_ble_eq_true rfl, Nat.le_of_ble_eq_true rfl⟩ dX12_readAnd_24 rfl (st := []) (fun I_56 J_57 h_58 => ?_)
        obtain ⟨hUI_56, hFI_56, hGJ_57, fx_55, ex_55⟩ := h_58
        have hF_59 := fq_tr hF_17 hFI_56 (by decide)
        have hG_60 := fq_tr hG_18 hGJ_57 (by decide)
        obtain ⟨s_62, hs_62⟩ : ∃ z, MTq I_56 J_57 x b_8 = z := ⟨_, rfl⟩
        have c_61 : mGo (s_32) = s_62 := by have q := fx_55; simp only [emqx, hs_32, hs_62] at q; exact q.symm
        have hs_63 : NVq I_56 J_57 x b_4 = s_30 := (vq_fq wvqx hFI_56 hGJ_57 (by decide) (by decide)).trans hs_30
        have hs_64 : NWq I_56 J_57 x b_6 = s_31 := (zq_fq wzqx hFI_56 hGJ_57 (by decide) (by decide)).trans hs_31
        have hs_65 : NRq I_56 J_57 x b_10 b_11 = s_33 := (nq_fq wnqx hFI_56 hGJ_57 (by decide) (by decide)).trans hs_33
        have hs_66 : QTq I_56 J_57 x = s_34 := (qq_fq wqqx hFI_56 hGJ_57 (by decide) (by decide)).trans hs_34
        refine g_aload_n C 0 dX12_readAnd_27 rfl rfl ?_
        have f_67 : s_34.om = v_21 := (congrArg QT_.om hs_66).symm.trans (fq_at hFI_56 hLx hkx (by decide) (by decide) q_24)
        refine g_callVI C K (c_X12_readSaid_2 W9 hLx hkx   hUI_56  (by rw [(fq_at hFI_56 hLx hkx (by decide) (by decide) q_23), (fq_at hFI_56 hLx hkx (by decide) (by decide) q_24)]; omega) ((fq_at hFI_56 hLx hkx (by decide) (by decide) q_25))) hLx hkx (by decide) rfl v_12_392 rfl ⟨rfl, rfl⟩ ⟨Nat.le_of_ble_eq_true rfl, Nat.le_of_ble_eq_true rfl⟩ (Nat.le_of_ble_eq_true rfl) ⟨Nat.le_of_ble_eq_true rfl, Nat.le_of_ble_eq_true rfl⟩ dX12_readAnd_28 rfl (st := []) (fun x_68 I_69 J_70 h_71 => ?_)
        obtain ⟨hUI_69, hFI_69, hGJ_70, rx_68, fx_68, ex_68⟩ := h_71
        have hF_72 := fq_tr hF_59 hFI_69 (by decide)
        have hG_73 := fq_tr hG_60 hGJ_70 (by decide)
        obtain ⟨s_75, hs_75⟩ : ∃ z, MTq I_69 J_70 x b_8 = z := ⟨_, rfl⟩
        obtain ⟨s_76, hs_76⟩ : ∃ z, NRq I_69 J_70 x b_10 b_11 = z := ⟨_, rfl⟩
        obtain ⟨s_77, hs_77⟩ : ∃ z, QTq I_69 J_70 x = z := ⟨_, rfl⟩
        have c_74 : mSaid 6 (s_30) (s_31) (s_62) (s_33) (s_34) = (x_68, s_75, s_76, s_77) := by have q := fx_68; simp only [evqx, ezqx, emqx, enqx, eqqx, hs_63, hs_64, hs_62, hs_65, hs_66, hs_75, hs_76, hs_77] at q; exact q.symm
        have hs_78 : NVq I_69 J_70 x b_4 = s_30 := (vq_fq wvqx hFI_69 hGJ_70 (by decide) (by decide)).trans hs_63
        have hs_79 : NWq I_69 J_70 x b_6 = s_31 := (zq_fq wzqx hFI_69 hGJ_70 (by decide) (by decide)).trans hs_64
        obtain ⟨x_80, hx_80, rx_80⟩ := ex_getw (I := I_69) (a := x) (j := 47) (lo := 0) (hi := 60) hUI_69.1 hLx (ro_o hkx (by decide)) rfl
        obtain ⟨x_81, hx_81, rx_81⟩ := ex_getw (I := I_69) (a := x) (j := 50) (lo := 0) (hi := 59) hUI_69.1 hLx (ro_o hkx (by decide)) rfl
        obtain ⟨x_82, hx_82, rx_82⟩ := ex_getw (I := I_69) (a := x) (j := 48) (lo := 0) (hi := 20) hUI_69.1 hLx (ro_o hkx (by decide)) rfl
        have f_83 : s_77.om = x_82 := (congrArg QT_.om hs_77).symm.trans hx_82
        refine g_if_ne C (tgt := 36) dX12_readAnd_31 (by decide) (fun h_84 => ?_) (fun h_84 => ?_)
        · skip
          have n_85 : ¬ x_68 = 0 := h_84
          have r_86 := ne_lo (lo := 1) n_85 rx_68 rc_0 rfl (by decide)
          have f_87 := sz_v (fq_at hFI_56 hLx hkx (by decide) (by decide) q_23) (fq_at hFI_56 hLx hkx (by decide) (by decide) q_24) hx_80 hx_82 hx_81 (ex_68.1 n_85)
          refine g_aload_n C 0 dX12_readAnd_36 rfl rfl ?_
          refine g_iconst C (v := 2) dX12_readAnd_37 (by decide) ?_
          refine g_iload_n C 1 dX12_readAnd_38 rfl rfl ?_
          refine g_aload_n C 0 dX12_readAnd_39 rfl rfl ?_
          refine g_getI C K hLx hkx f_12_386 (v := x_81) hx_81 dX12_readAnd_40 ?_
          refine g_iconst C (v := 0) dX12_readAnd_43 (by decide) ?_
          have r_88 := (show Rg 0 59 x_80 from by have q1 := rx_80; have q2 := rx_82; unfold Rg at *; omega)
          refine g_callVI C K (c_X12_saysOne W9 hLx hkx 2 v_19 x_81 0 (rg_w rc_2 (by decide) (by decide)) (rv_19) (rg_w rx_81 (by decide) (by decide)) hUI_69  (eq_rg hx_80 (r_88)) (by rw [hx_80]; exact ⟨fun _ => ⟨by have := (rv_19).1; omega, by omega⟩, fun _ => ⟨by have := (rx_81).1; omega, by omega⟩, fun q => absurd q (by decide)⟩)) hLx hkx (by decide) rfl v_12_389 rfl ⟨rfl, rfl⟩ ⟨Nat.le_of_ble_eq_true rfl, Nat.le_of_ble_eq_true rfl⟩ (Nat.le_of_ble_eq_true rfl) ⟨Nat.le_of_ble_eq_true rfl, Nat.le_of_ble_eq_true rfl⟩ dX12_readAnd_44 rfl (st := []) (fun x_89 I_90 J_91 h_92 => ?_)
          obtain ⟨hUI_90, hFI_90, hGJ_91, rx_89, ex_89⟩ := h_92
          have hF_93 := fq_tr hF_72 hFI_90 (by decide)
          have hG_94 := fq_tr hG_73 hGJ_91 (by decide)
          have hs_95 : NVq I_90 J_91 x b_4 = s_30 := (vq_fq wvqx hFI_90 hGJ_91 (by decide) (by decide)).trans hs_78
          have hs_96 : NWq I_90 J_91 x b_6 = s_31 := (zq_fq wzqx hFI_90 hGJ_91 (by decide) (by decide)).trans hs_79
          have hs_97 : MTq I_90 J_91 x b_8 = s_75 := (mq_fq wmqx hFI_90 hGJ_91 (by decide) (by decide)).trans hs_75
          have hs_98 : NRq I_90 J_91 x b_10 b_11 = s_76 := (nq_fq wnqx hFI_90 hGJ_91 (by decide) (by decide)).trans hs_76
          have hs_99 : QTq I_90 J_91 x = s_77 := (qq_fq wqqx hFI_90 hGJ_91 (by decide) (by decide)).trans hs_77
          obtain ⟨x_100, hx_100, rx_100, tx_100, ux_100⟩ := sa_b (lo := 1) (hi := 60) ex_89 hx_80 r_88 (by decide) (by decide)
          have r_101 := (show Rg 0 59 x_89 from by have q1 := ux_100; have q2 := r_88; unfold Rg at *; omega)
          refine g_istore_n C dX12_readAnd_47 rfl (by decide) (lo2 := [(1, .int x_89), (0, .ref x)]) rfl ?_
          refine g_goto C (tgt := 14) dX12_readAnd_48 (by decide) ?_
          refine g_lo (is := [1, 0]) (lo2 := [(0, .ref x), (1, .int x_89)]) rfl ?_
          exact ih_14 I_90 J_91 hUI_90 hF_93 hG_94 x_89 (r_101) x_100 (rg_w rx_100 (by decide) (by decide)) x_82 (rx_82) x_81 (rx_81) hx_100 (fq_at hFI_90 hLx hkx (by decide) (by decide) hx_82) (fq_at hFI_90 hLx hkx (by decide) (by decide) ex_68.2) (fq_at hFI_90 hLx hkx (by decide) (by decide) hx_81) (by (try simp only [c_41, h_42, c_61, f_67, c_74, hx_80, hx_81, hx_82, f_83, h_84, hx_100, if_true, if_false, mqM_tp, mqM_size, mqM_limit, mqM_to, mqM_frm, mqM_kind, mqM_number, mqM_sign, mqM_word, MT_.w_tp, MT_.w_size, MT_.w_limit, MT_.w_to, MT_.w_frm, MT_.w_kind, MT_.w_number, MT_.w_sign, MT_.w_word, nqM_rd, nqM_rn, nqM_taped, nqM_mfault, nqM_mplace, nqM_told, nqM_hl, nqM_hd, NR_.w_rd, NR_.w_rn, NR_.w_taped, NR_.w_mfault, NR_.w_mplace, NR_.w_told, NR_.w_hl, NR_.w_hd, qqM_om, QT_.w_om, vqM_nv, NV_.w_nv, zqM_nw, NW_.w_nw] at hQ_35); (try simp only [c_41, h_42, c_61, f_67, c_74, hx_80, hx_81, hx_82, f_83, h_84, hx_100, if_true, if_false, mqM_tp, mqM_size, mqM_limit, mqM_to, mqM_frm, mqM_kind, mqM_number, mqM_sign, mqM_word, MT_.w_tp, MT_.w_size, MT_.w_limit, MT_.w_to, MT_.w_frm, MT_.w_kind, MT_.w_number, MT_.w_sign, MT_.w_word, nqM_rd, nqM_rn, nqM_taped, nqM_mfault, nqM_mplace, nqM_told, nqM_hl, nqM_hd, NR_.w_rd, NR_.w_rn, NR_.w_taped, NR_.w_mfault, NR_.w_mplace, NR_.w_told, NR_.w_hl, NR_.w_hd, qqM_om, QT_.w_om, vqM_nv, NV_.w_nv, zqM_nw, NW_.w_nw] at u_36); simp only [evqx, hs_95, hs_5, ezqx, hs_96, hs_7, emqx, hs_97, hs_9, enqx, hs_98, hs_12, eqqx, hs_99, hs_13, hQ_35, u_36, c_41, h_42, c_61, f_67, c_74, hx_80, hx_81, hx_82, f_83, h_84, hx_100, if_true, if_false, mqM_tp, mqM_size, mqM_limit, mqM_to, mqM_frm, mqM_kind, mqM_number, mqM_sign, mqM_word, MT_.w_tp, MT_.w_size, MT_.w_limit, MT_.w_to, MT_.w_frm, MT_.w_kind, MT_.w_number, MT_.w_sign, MT_.w_word, nqM_rd, nqM_rn, nqM_taped, nqM_mfault, nqM_mplace, nqM_told, nqM_hl, nqM_hd, NR_.w_rd, NR_.w_rn, NR_.w_taped, NR_.w_mfault, NR_.w_mplace, NR_.w_told, NR_.w_hl, NR_.w_hd, qqM_om, QT_.w_om, vqM_nv, NV_.w_nv, zqM_nw, NW_.w_nw]) ⟨by have := tx_100; omega, by have := tx_100; omega, by have := tx_100; omega, by have := tx_100; omega⟩ (by have q9 := hm_29; have := tx_100; omega)
        · skip
          have r_102 := (⟨(rx_68).1, (eq_rg (h_84) rc_0).2⟩ : Rg 0 0 x_68)
          refine g_iconst C (v := 0) dX12_readAnd_34 (by decide) ?_
          exact g_zret (ty := .boolean) (r := 0) B K rfl (rfl) ⟨hUI_69, hF_72, hG_73, rg_w rc_0 (by decide) (by decide), (by (try simp only [c_41, h_42, c_61, f_67, c_74, hx_80, hx_81, hx_82, f_83, (eq_true h_84), if_true, if_false, mqM_tp, mqM_size, mqM_limit, mqM_to, mqM_frm, mqM_kind, mqM_number, mqM_sign, mqM_word, MT_.w_tp, MT_.w_size, MT_.w_limit, MT_.w_to, MT_.w_frm, MT_.w_kind, MT_.w_number, MT_.w_sign, MT_.w_word, nqM_rd, nqM_rn, nqM_taped, nqM_mfault, nqM_mplace, nqM_told, nqM_hl, nqM_hd, NR_.w_rd, NR_.w_rn, NR_.w_taped, NR_.w_mfault, NR_.w_mplace, NR_.w_told, NR_.w_hl, NR_.w_hd, qqM_om, QT_.w_om, vqM_nv, NV_.w_nv, zqM_nw, NW_.w_nw] at hQ_35); (try simp only [c_41, h_42, c_61, f_67, c_74, hx_80, hx_81, hx_82, f_83, (eq_true h_84), if_true, if_false, mqM_tp, mqM_size, mqM_limit, mqM_to, mqM_frm, mqM_kind, mqM_number, mqM_sign, mqM_word, MT_.w_tp, MT_.w_size, MT_.w_limit, MT_.w_to, MT_.w_frm, MT_.w_kind, MT_.w_number, MT_.w_sign, MT_.w_word, nqM_rd, nqM_rn, nqM_taped, nqM_mfault, nqM_mplace, nqM_told, nqM_hl, nqM_hd, NR_.w_rd, NR_.w_rn, NR_.w_taped, NR_.w_mfault, NR_.w_mplace, NR_.w_told, NR_.w_hl, NR_.w_hd, qqM_om, QT_.w_om, vqM_nv, NV_.w_nv, zqM_nw, NW_.w_nw] at u_36); simp only [evqx, hs_78, hs_5, ezqx, hs_79, hs_7, emqx, hs_75, hs_9, enqx, hs_76, hs_12, eqqx, hs_77, hs_13, hQ_35, u_36, c_41, h_42, c_61, f_67, c_74, hx_80, hx_81, hx_82, f_83, (eq_true h_84), if_true, if_false, mqM_tp, mqM_size, mqM_limit, mqM_to, mqM_frm, mqM_kind, mqM_number, mqM_sign, mqM_word, MT_.w_tp, MT_.w_size, MT_.w_limit, MT_.w_to, MT_.w_frm, MT_.w_kind, MT_.w_number, MT_.w_sign, MT_.w_word, nqM_rd, nqM_rn, nqM_taped, nqM_mfault, nqM_mplace, nqM_told, nqM_hl, nqM_hd, NR_.w_rd, NR_.w_rn, NR_.w_taped, NR_.w_mfault, NR_.w_mplace, NR_.w_told, NR_.w_hl, NR_.w_hd, qqM_om, QT_.w_om, vqM_nv, NV_.w_nv, zqM_nw, NW_.w_nw]), (fun q => absurd rfl q), ex_68.2⟩ dX12_readAnd_35
  refine g_aload_n C 0 dX12_readAnd_0 rfl rfl ?_
  have f_103 : s_13.om = x_2 := (congrArg QT_.om hs_13).symm.trans hx_2
  refine g_callVI C K (c_X12_readSaid_2 W9 hLx hkx   hU  (by rw [hx_1, hx_2]; omega) (hwi)) hLx hkx (by decide) rfl v_12_392 rfl ⟨rfl, rfl⟩ ⟨Nat.le_of_ble_eq_true rfl, Nat.le_of_ble_eq_true rfl⟩ (Nat.le_of_ble_eq_true rfl) ⟨Nat.le_of_ble_eq_true rfl, Nat.le_of_ble_eq_true rfl⟩ dX12_readAnd_1 rfl (st := []) (fun x_104 I_105 J_106 h_107 => ?_)
  obtain ⟨hUI_105, hFI_105, hGJ_106, rx_104, fx_104, ex_104⟩ := h_107
  have hF_108 := fq_tr hF hFI_105 (by decide)
  have hG_109 := fq_tr hG hGJ_106 (by decide)
  obtain ⟨s_111, hs_111⟩ : ∃ z, MTq I_105 J_106 x b_8 = z := ⟨_, rfl⟩
  obtain ⟨s_112, hs_112⟩ : ∃ z, NRq I_105 J_106 x b_10 b_11 = z := ⟨_, rfl⟩
  obtain ⟨s_113, hs_113⟩ : ∃ z, QTq I_105 J_106 x = z := ⟨_, rfl⟩
  have c_110 : mSaid 6 (s_5) (s_7) (s_9) (s_12) (s_13) = (x_104, s_111, s_112, s_113) := by have q := fx_104; simp only [evqx, ezqx, emqx, enqx, eqqx, hs_5, hs_7, hs_9, hs_12, hs_13, hs_111, hs_112, hs_113] at q; exact q.symm
  have hs_114 : NVq I_105 J_106 x b_4 = s_5 := (vq_fq wvqx hFI_105 hGJ_106 (by decide) (by decide)).trans hs_5
  have hs_115 : NWq I_105 J_106 x b_6 = s_7 := (zq_fq wzqx hFI_105 hGJ_106 (by decide) (by decide)).trans hs_7
  obtain ⟨x_116, hx_116, rx_116⟩ := ex_getw (I := I_105) (a := x) (j := 47) (lo := 0) (hi := 60) hUI_105.1 hLx (ro_o hkx (by decide)) rfl
  obtain ⟨x_117, hx_117, rx_117⟩ := ex_getw (I := I_105) (a := x) (j := 50) (lo := 0) (hi := 59) hUI_105.1 hLx (ro_o hkx (by decide)) rfl
  obtain ⟨x_118, hx_118, rx_118⟩ := ex_getw (I := I_105) (a := x) (j := 48) (lo := 0) (hi := 20) hUI_105.1 hLx (ro_o hkx (by decide)) rfl
  have f_119 : s_113.om = x_118 := (congrArg QT_.om hs_113).symm.trans hx_118
  refine g_if_ne C (tgt := 9) dX12_readAnd_4 (by decide) (fun h_120 => ?_) (fun h_120 => ?_)
  · skip
    have n_121 : ¬ x_104 = 0 := h_120
    have r_122 := ne_lo (lo := 1) n_121 rx_104 rc_0 rfl (by decide)
    have f_123 := sz_v hx_1 hx_2 hx_116 hx_118 hx_117 (ex_104.1 n_121)
    refine g_aload_n C 0 dX12_readAnd_9 rfl rfl ?_
    refine g_getI C K hLx hkx f_12_386 (v := x_117) hx_117 dX12_readAnd_10 ?_
    refine g_istore_n C dX12_readAnd_13 rfl (by decide) (lo2 := [(1, .int x_117), (0, .ref x)]) rfl ?_
    refine g_lo (is := [1, 0]) (lo2 := [(0, .ref x), (1, .int x_117)]) rfl ?_
    exact l_14 21 I_105 J_106 hUI_105 hF_108 hG_109 x_117 (rx_117) x_116 (rx_116) x_118 (rx_118) x_117 (rx_117) hx_116 hx_118 ex_104.2 hx_117 (by simp only [mAndK, evqx, hs_114, hs_5, ezqx, hs_115, hs_7, emqx, hs_111, hs_9, enqx, hs_112, hs_12, eqqx, hs_113, hs_13, hx_1, hx_2, hx_3, f_103, c_110, hx_116, hx_117, hx_118, f_119, h_120, if_true, if_false, mqM_tp, mqM_size, mqM_limit, mqM_to, mqM_frm, mqM_kind, mqM_number, mqM_sign, mqM_word, MT_.w_tp, MT_.w_size, MT_.w_limit, MT_.w_to, MT_.w_frm, MT_.w_kind, MT_.w_number, MT_.w_sign, MT_.w_word, nqM_rd, nqM_rn, nqM_taped, nqM_mfault, nqM_mplace, nqM_told, nqM_hl, nqM_hd, NR_.w_rd, NR_.w_rn, NR_.w_taped, NR_.w_mfault, NR_.w_mplace, NR_.w_told, NR_.w_hl, NR_.w_hd, qqM_om, QT_.w_om, vqM_nv, NV_.w_nv, zqM_nw, NW_.w_nw]) ⟨by omega, by omega, by omega, by omega⟩ (by have := (rx_118).1; omega)
  · skip
    have r_124 := (⟨(rx_104).1, (eq_rg (h_120) rc_0).2⟩ : Rg 0 0 x_104)
    refine g_iconst C (v := 0) dX12_readAnd_7 (by decide) ?_
    exact g_zret (ty := .boolean) (r := 0) B K rfl (rfl) ⟨hUI_105, hF_108, hG_109, rg_w rc_0 (by decide) (by decide), (by simp only [mAndK, evqx, hs_114, hs_5, ezqx, hs_115, hs_7, emqx, hs_111, hs_9, enqx, hs_112, hs_12, eqqx, hs_113, hs_13, hx_1, hx_2, hx_3, f_103, c_110, hx_116, hx_117, hx_118, f_119, (eq_true h_120), if_true, if_false, mqM_tp, mqM_size, mqM_limit, mqM_to, mqM_frm, mqM_kind, mqM_number, mqM_sign, mqM_word, MT_.w_tp, MT_.w_size, MT_.w_limit, MT_.w_to, MT_.w_frm, MT_.w_kind, MT_.w_number, MT_.w_sign, MT_.w_word, nqM_rd, nqM_rn, nqM_taped, nqM_mfault, nqM_mplace, nqM_told, nqM_hl, nqM_hd, NR_.w_rd, NR_.w_rn, NR_.w_taped, NR_.w_mfault, NR_.w_mplace, NR_.w_told, NR_.w_hl, NR_.w_hd, qqM_om, QT_.w_om, vqM_nv, NV_.w_nv, zqM_nw, NW_.w_nw]), (fun q => absurd rfl q), ex_104.2⟩ dX12_readAnd_8
set_option maxRecDepth 100000 in
set_option maxHeartbeats 8000000 in
theorem c_X12_readOr_2 {l : Launch} {D : va_G} {cy : Nat → ClassId} {L : List Nat} {κ ln : Nat → Nat} {R : Nat → Nat → Option Nat} {I : Nat → Nat → Int32} {J : Nat → Nat → Int64} {ow : Nat → Nat × Nat} (W9 : ∀ a ∈ L, Shp L κ ln R ow a) {x : Nat} (hLx : x ∈ L) (hkx : κ x = 12) (hU : Iw L κ R ow I) (hn : (I x 47).toInt ≤ 2 * (I x 48).toInt) (hwi : I x 49 = 2) : CtI l yX12_readOr cX12_readOr 2 (some .boolean) { frames := 29, cells := 0, slots := 0, locals := 623 } D cy L κ ln R I J [.ref x] (fun r I2 J2 => Iw L κ R ow I2 ∧ Fq L κ ow [1205, 1206, 1207, 1208, 1209, 1210, 1211, 1213, 1247, 1248, 1249, 1250, 86600] I I2 ∧ Fq L κ ow [1212] J J2 ∧ Rg 0 1 r ∧ ((r, MTf R I2 J2 x, NRf R I2 J2 x, QTf R I2 J2 x) = mOrK 6 (NVf R I J x) (NWf R I J x) (MTf R I J x) (NRf R I J x) (QTf R I J x)) ∧ (¬ r = 0 → Sz_ x I I2 1) ∧ (I2 x 49 = 2)) := by
  obtain ⟨x_1, hx_1, rx_1⟩ := ex_getw (I := I) (a := x) (j := 47) (lo := 0) (hi := 60) hU.1 hLx (ro_o hkx (by decide)) rfl
  obtain ⟨x_2, hx_2, rx_2⟩ := ex_getw (I := I) (a := x) (j := 48) (lo := 0) (hi := 20) hU.1 hLx (ro_o hkx (by decide)) rfl
  rw [hx_1, hx_2] at hn
  obtain ⟨x_3, hx_3, rx_3⟩ := ex_getw (I := I) (a := x) (j := 50) (lo := 0) (hi := 59) hU.1 hLx (ro_o hkx (by decide)) rfl
  refine CtI.of (by decide +kernel) (Nat.le_of_ble_eq_true rfl) ?_
  intro p e s m below meth c B K
  have C := B.1
  have hF : Fq L κ ow [1205, 1206, 1207, 1208, 1209, 1210, 1211, 1213, 1247, 1248, 1249, 1250, 86600] I I := fq_rf
  have hG : Fq L κ ow [1212] J J := fq_rf
  obtain ⟨b_4, hb_4, hb_4L, hb_4k, hb_4n, hb_4o⟩ := shp_a (W9 x hLx) hkx 19 15 13 rfl (by decide)
  have evqx : ∀ I J, NVf R I J x = NVq I J x b_4 := fun I J => by simp only [NVf, rr_, Option.getD_some, hb_4]
  have wvqx : vqw_ L κ ow x b_4 := ⟨⟨hLx, hb_4L⟩, ⟨(ro_o hkx (by decide)), (ro_a hb_4k (by decide) hb_4o hkx rfl)⟩⟩
  obtain ⟨s_5, hs_5⟩ : ∃ z, NVq I J x b_4 = z := ⟨_, rfl⟩
  obtain ⟨b_6, hb_6, hb_6L, hb_6k, hb_6n, hb_6o⟩ := shp_a (W9 x hLx) hkx 14 14 389 rfl (by decide)
  have ezqx : ∀ I J, NWf R I J x = NWq I J x b_6 := fun I J => by simp only [NWf, rr_, Option.getD_some, hb_6]
  have wzqx : zqw_ L κ ow x b_6 := ⟨⟨hLx, hb_6L⟩, ⟨(ro_o hkx (by decide)), (ro_a hb_6k (by decide) hb_6o hkx rfl)⟩⟩
  obtain ⟨s_7, hs_7⟩ : ∃ z, NWq I J x b_6 = z := ⟨_, rfl⟩
  obtain ⟨b_8, hb_8, hb_8L, hb_8k, hb_8n, hb_8o⟩ := shp_a (W9 x hLx) hkx 1 14 940 rfl (by decide)
  have emqx : ∀ I J, MTf R I J x = MTq I J x b_8 := fun I J => by simp only [MTf, rr_, Option.getD_some, hb_8]
  have wmqx : mqw_ L κ ow x b_8 := ⟨⟨hLx, hb_8L⟩, ⟨(ro_o hkx (by decide)), (ro_a hb_8k (by decide) hb_8o hkx rfl)⟩⟩
  obtain ⟨s_9, hs_9⟩ : ∃ z, MTq I J x b_8 = z := ⟨_, rfl⟩
  obtain ⟨b_10, hb_10, hb_10L, hb_10k, hb_10n, hb_10o⟩ := shp_a (W9 x hLx) hkx 15 14 72 rfl (by decide)
  obtain ⟨b_11, hb_11, hb_11L, hb_11k, hb_11n, hb_11o⟩ := shp_a (W9 x hLx) hkx 20 15 13 rfl (by decide)
  have enqx : ∀ I J, NRf R I J x = NRq I J x b_10 b_11 := fun I J => by simp only [NRf, rr_, Option.getD_some, hb_10, hb_11]
  have wnqx : nqw_ L κ ow x b_10 b_11 := ⟨⟨hLx, hb_10L, hb_11L⟩, ⟨(ro_o hkx (by decide)), (ro_a hb_10k (by decide) hb_10o hkx rfl), (ro_a hb_11k (by decide) hb_11o hkx rfl)⟩⟩
  obtain ⟨s_12, hs_12⟩ : ∃ z, NRq I J x b_10 b_11 = z := ⟨_, rfl⟩
  have eqqx : ∀ I J, QTf R I J x = QTq I J x := fun I J => by simp only [QTf, rr_, Option.getD_some]
  have wqqx : qqw_ L κ ow x := ⟨hLx, (ro_o hkx (by decide))⟩
  obtain ⟨s_13, hs_13⟩ : ∃ z, QTq I J x = z := ⟨_, rfl⟩
  refine g_lo (is := [0]) (lo2 := [(0, .ref x)]) rfl ?_
  have l_14 : ∀ (n_14 : Nat) (I_14 : Nat → Nat → Int32) (J_15 : Nat → Nat → Int64) (hU_16 : Iw L κ R ow I_14) (hF_17 : Fq L κ ow [1205, 1206, 1207, 1208, 1209, 1210, 1211, 1213, 1247, 1248, 1249, 1250, 86600] I I_14) (hG_18 : Fq L κ ow [1212] J J_15) (v_19 : Int32) (rv_19 : Rg 0 59 v_19) (v_20 : Int32) (rv_20 : Rg 0 60 v_20) (v_21 : Int32) (rv_21 : Rg 0 20 v_21) (v_22 : Int32) (rv_22 : Rg 0 59 v_22) (q_23 : I_14 x 47 = v_20) (q_24 : I_14 x 48 = v_21) (q_25 : I_14 x 49 = 2) (q_26 : I_14 x 50 = v_22) (hq_27 : mLp (mAndK 6 (NVq I_14 J_15 x b_4) (NWq I_14 J_15 x b_6)) 16 n_14 (MTq I_14 J_15 x b_8) (NRq I_14 J_15 x b_10 b_11) (QTq I_14 J_15 x) = mOrK 6 s_5 s_7 s_9 s_12 s_13) (hj_28 : x_1.toInt ≤ v_20.toInt ∧ x_2.toInt + 1 ≤ v_21.toInt ∧ 2 * x_2.toInt - x_1.toInt + 1 ≤ 2 * v_21.toInt - v_20.toInt ∧ v_19.toInt < v_20.toInt) (hm_29 : 20 < v_21.toInt + (n_14 : Int)), WG p l e { frames := 29, cells := 0, slots := 0, locals := 623 } s m ([.ref x] : List Value).toArray below meth c 2 0 0 (MQ below (Qi_ D cy L κ ln R (fun r I2 J2 => Iw L κ R ow I2 ∧ Fq L κ ow [1205, 1206, 1207, 1208, 1209, 1210, 1211, 1213, 1247, 1248, 1249, 1250, 86600] I I2 ∧ Fq L κ ow [1212] J J2 ∧ Rg 0 1 r ∧ ((r, MTf R I2 J2 x, NRf R I2 J2 x, QTf R I2 J2 x) = mOrK 6 (NVf R I J x) (NWf R I J x) (MTf R I J x) (NRf R I J x) (QTf R I J x)) ∧ (¬ r = 0 → Sz_ x I I2 1) ∧ (I2 x 49 = 2))) ([.ref x] : List Value).toArray s 0 0 (Al_ L)) D cy (Al_ L) s.heap L κ ln R I_14 J_15 14 [(0, .ref x), (1, .int v_19)] [] := by
    intro n_14
    induction n_14 with
    | zero =>
      intro I_14 J_15 hU_16 hF_17 hG_18 v_19 rv_19 v_20 rv_20 v_21 rv_21 v_22 rv_22 q_23 q_24 q_25 q_26 hq_27 hj_28 hm_29
      exact absurd hm_29 (by have := (rv_21).2; omega)
    | succ n_14 ih_14 =>
      intro I_14 J_15 hU_16 hF_17 hG_18 v_19 rv_19 v_20 rv_20 v_21 rv_21 v_22 rv_22 q_23 q_24 q_25 q_26 hq_27 hj_28 hm_29
      obtain ⟨s_30, hs_30⟩ : ∃ z, NVq I_14 J_15 x b_4 = z := ⟨_, rfl⟩
      obtain ⟨s_31, hs_31⟩ : ∃ z, NWq I_14 J_15 x b_6 = z := ⟨_, rfl⟩
      obtain ⟨s_32, hs_32⟩ : ∃ z, MTq I_14 J_15 x b_8 = z := ⟨_, rfl⟩
      obtain ⟨s_33, hs_33⟩ : ∃ z, NRq I_14 J_15 x b_10 b_11 = z := ⟨_, rfl⟩
      obtain ⟨s_34, hs_34⟩ : ∃ z, QTq I_14 J_15 x = z := ⟨_, rfl⟩
      simp only [hs_30, hs_31, hs_32, hs_33, hs_34] at hq_27
      have hQ_35 := hq_27.symm
      have u_36 := mLp_eq (rd := mAndK 6 s_30 s_31) (k := 16) (f := n_14) (m := s_32) (n := s_33) (q := s_34)
      refine g_aload_n C 0 dX12_readOr_14 rfl rfl ?_
      refine g_bipush C (v := 16) dX12_readOr_15 (by decide) ?_
      refine g_callVI C K (c_X12_isWord W9 hLx hkx 16 (rg_w rc_16 (by decide) (by decide)) hU_16) hLx hkx (by decide) rfl v_12_191 rfl ⟨rfl, rfl⟩ ⟨Nat.le_of_ble_eq_true rfl, Nat.le_of_ble_eq_true rfl⟩ (Nat.le_of_ble_eq_true rfl) ⟨Nat.le_of_ble_eq_true rfl, Nat.le_of_ble_eq_true rfl⟩ dX12_readOr_17 rfl (st := []) (fun x_37 I_38 J_39 h_40 => ?_)
      obtain ⟨rfl, rfl, rx_37, fx_37⟩ := h_40
      have c_41 : mIsWord (16) (s_32) = x_37 := by have q := fx_37; simp only [emqx, hs_32] at q; exact q.symm
      refine g_if_eq C (tgt := 51) dX12_readOr_20 (by decide) (fun h_42 => ?_) (fun h_42 => ?_)
      · skip
        have r_43 := (⟨(rx_37).1, (eq_rg (h_42) rc_0).2⟩ : Rg 0 0 x_37)
        refine g_aload_n C 0 dX12_readOr_51 rfl rfl ?_
        refine g_iload_n C 1 dX12_readOr_52 rfl rfl ?_
        refine h_putI C K hLx hkx f_12_386 p_12_50 dX12_readOr_53 (fun I_44 hI_44 => ?_)
        have hU_45 := iw_put W9 hU_16 hI_44 (ro_o hkx (by decide)) (lo := 0) (hi := 59) (rfl) (rv_19) rfl
        have hF_46 := fq_puto hF_17 hI_44 hkx (by decide) (by decide)
        have hs_47 : NVq I_44 J_15 x b_4 = s_30 := by rw [hI_44]; exact (vq_oI wvqx (ro_o hkx (by decide)) (by decide)).trans hs_30
        have hs_48 : NWq I_44 J_15 x b_6 = s_31 := by rw [hI_44]; exact (zq_oI wzqx (ro_o hkx (by decide)) (by decide)).trans hs_31
        have hs_49 : MTq I_44 J_15 x b_8 = s_32 := by rw [hI_44]; exact (mq_uIt wmqx (by decide)).trans hs_32
        have hs_50 : NRq I_44 J_15 x b_10 b_11 = s_33 := by rw [hI_44]; exact (nq_uIt wnqx (by decide)).trans hs_33
        have hs_51 : QTq I_44 J_15 x = s_34 := by rw [hI_44]; exact (qq_uIt wqqx (by decide)).trans hs_34
        refine g_iconst C (v := 1) dX12_readOr_56 (by decide) ?_
        have f_52 : s_34.om = v_21 := (congrArg QT_.om hs_51).symm.trans (kp_j hI_44 (by decide) q_24)
        exact g_zret (ty := .boolean) (r := 1) B K rfl (rfl) ⟨hU_45, hF_46, hG_18, rg_w rc_1 (by decide) (by decide), (by (try simp only [c_41, (eq_true h_42), if_true, if_false, mqM_tp, mqM_size, mqM_limit, mqM_to, mqM_frm, mqM_kind, mqM_number, mqM_sign, mqM_word, MT_.w_tp, MT_.w_size, MT_.w_limit, MT_.w_to, MT_.w_frm, MT_.w_kind, MT_.w_number, MT_.w_sign, MT_.w_word, nqM_rd, nqM_rn, nqM_taped, nqM_mfault, nqM_mplace, nqM_told, nqM_hl, nqM_hd, NR_.w_rd, NR_.w_rn, NR_.w_taped, NR_.w_mfault, NR_.w_mplace, NR_.w_told, NR_.w_hl, NR_.w_hd, qqM_om, QT_.w_om, vqM_nv, NV_.w_nv, zqM_nw, NW_.w_nw] at hQ_35); (try simp only [c_41, (eq_true h_42), if_true, if_false, mqM_tp, mqM_size, mqM_limit, mqM_to, mqM_frm, mqM_kind, mqM_number, mqM_sign, mqM_word, MT_.w_tp, MT_.w_size, MT_.w_limit, MT_.w_to, MT_.w_frm, MT_.w_kind, MT_.w_number, MT_.w_sign, MT_.w_word, nqM_rd, nqM_rn, nqM_taped, nqM_mfault, nqM_mplace, nqM_told, nqM_hl, nqM_hd, NR_.w_rd, NR_.w_rn, NR_.w_taped, NR_.w_mfault, NR_.w_mplace, NR_.w_told, NR_.w_hl, NR_.w_hd, qqM_om, QT_.w_om, vqM_nv, NV_.w_nv, zqM_nw, NW_.w_nw] at u_36); simp only [evqx, hs_47, hs_5, ezqx, hs_48, hs_7, emqx, hs_49, hs_9, enqx, hs_50, hs_12, eqqx, hs_51, hs_13, hQ_35, u_36, c_41, (eq_true h_42), if_true, if_false, mqM_tp, mqM_size, mqM_limit, mqM_to, mqM_frm, mqM_kind, mqM_number, mqM_sign, mqM_word, MT_.w_tp, MT_.w_size, MT_.w_limit, MT_.w_to, MT_.w_frm, MT_.w_kind, MT_.w_number, MT_.w_sign, MT_.w_word, nqM_rd, nqM_rn, nqM_taped, nqM_mfault, nqM_mplace, nqM_told, nqM_hl, nqM_hd, NR_.w_rd, NR_.w_rn, NR_.w_taped, NR_.w_mfault, NR_.w_mplace, NR_.w_told, NR_.w_hl, NR_.w_hd, qqM_om, QT_.w_om, vqM_nv, NV_.w_nv, zqM_nw, NW_.w_nw]), (fun _ => (sz_m hx_1 hx_2 (kp_j hI_44 (by decide) q_23) (kp_j hI_44 (by decide) q_24) (kp_s hI_44) ⟨by omega, by omega, by omega, by omega⟩)), (kp_j hI_44 (by decide) q_25)⟩ dX12_readOr_57
      · skip
        have n_53 : ¬ x_37 = 0 := h_42
        have r_54 := ne_lo (lo := 1) n_53 rx_37 rc_0 rfl (by decide)
        refine g_aload_n C 0 dX12_readOr_23 rfl rfl ?_
        refine g_callVV C K (c_X12_go W9 hLx hkx   hU_16) hLx hkx (by decide) rfl v_12_156 rfl ⟨rfl, rfl⟩ ⟨Nat.le_of_ble_eq_true rfl, Nat.le_of_ble_eq_true rfl⟩ (Nat.le_of_ble_eq_true rfl) ⟨Nat.le_of_ble_eq_true rfl, Nat.le_of_ble_eq_true rfl⟩ dX12_readOr_24 rfl (st := []) (fun I_56 J_57 h_58 => ?_)
        obtain ⟨hUI_56, hFI_56, hGJ_57, fx_55, ex_55⟩ := h_58
        have hF_59 := fq_tr hF_17 hFI_56 (by decide)
        have hG_60 := fq_tr hG_18 hGJ_57 (by decide)
        obtain ⟨s_62, hs_62⟩ : ∃ z, MTq I_56 J_57 x b_8 = z := ⟨_, rfl⟩
        have c_61 : mGo (s_32) = s_62 := by have q := fx_55; simp only [emqx, hs_32, hs_62] at q; exact q.symm
        have hs_63 : NVq I_56 J_57 x b_4 = s_30 := (vq_fq wvqx hFI_56 hGJ_57 (by decide) (by decide)).trans hs_30
        have hs_64 : NWq I_56 J_57 x b_6 = s_31 := (zq_fq wzqx hFI_56 hGJ_57 (by decide) (by decide)).trans hs_31
        have hs_65 : NRq I_56 J_57 x b_10 b_11 = s_33 := (nq_fq wnqx hFI_56 hGJ_57 (by decide) (by decide)).trans hs_33
        have hs_66 : QTq I_56 J_57 x = s_34 := (qq_fq wqqx hFI_56 hGJ_57 (by decide) (by decide)).trans hs_34
        refine g_aload_n C 0 dX12_readOr_27 rfl rfl ?_
        have f_67 : s_34.om = v_21 := (congrArg QT_.om hs_66).symm.trans (fq_at hFI_56 hLx hkx (by decide) (by decide) q_24)
        refine g_callVI C K (c_X12_readAnd_2 W9 hLx hkx   hUI_56  (by rw [(fq_at hFI_56 hLx hkx (by decide) (by decide) q_23), (fq_at hFI_56 hLx hkx (by decide) (by decide) q_24)]; omega) ((fq_at hFI_56 hLx hkx (by decide) (by decide) q_25))) hLx hkx (by decide) rfl v_12_383 rfl ⟨rfl, rfl⟩ ⟨Nat.le_of_ble_eq_true rfl, Nat.le_of_ble_eq_true rfl⟩ (Nat.le_of_ble_eq_true rfl) ⟨Nat.le_of_ble_eq_true rfl, Nat.le_of_ble_eq_true rfl⟩ dX12_readOr_28 rfl (st := []) (fun x_68 I_69 J_70 h_71 => ?_)
        obtain ⟨hUI_69, hFI_69, hGJ_70, rx_68, fx_68, ex_68⟩ := h_71
        have hF_72 := fq_tr hF_59 hFI_69 (by decide)
        have hG_73 := fq_tr hG_60 hGJ_70 (by decide)
        obtain ⟨s_75, hs_75⟩ : ∃ z, MTq I_69 J_70 x b_8 = z := ⟨_, rfl⟩
        obtain ⟨s_76, hs_76⟩ : ∃ z, NRq I_69 J_70 x b_10 b_11 = z := ⟨_, rfl⟩
        obtain ⟨s_77, hs_77⟩ : ∃ z, QTq I_69 J_70 x = z := ⟨_, rfl⟩
        have c_74 : mAndK 6 (s_30) (s_31) (s_62) (s_33) (s_34) = (x_68, s_75, s_76, s_77) := by have q := fx_68; simp only [evqx, ezqx, emqx, enqx, eqqx, hs_63, hs_64, hs_62, hs_65, hs_66, hs_75, hs_76, hs_77] at q; exact q.symm
        have hs_78 : NVq I_69 J_70 x b_4 = s_30 := (vq_fq wvqx hFI_69 hGJ_70 (by decide) (by decide)).trans hs_63
        have hs_79 : NWq I_69 J_70 x b_6 = s_31 := (zq_fq wzqx hFI_69 hGJ_70 (by decide) (by decide)).trans hs_64
        obtain ⟨x_80, hx_80, rx_80⟩ := ex_getw (I := I_69) (a := x) (j := 47) (lo := 0) (hi := 60) hUI_69.1 hLx (ro_o hkx (by decide)) rfl
        obtain ⟨x_81, hx_81, rx_81⟩ := ex_getw (I := I_69) (a := x) (j := 50) (lo := 0) (hi := 59) hUI_69.1 hLx (ro_o hkx (by decide)) rfl
        obtain ⟨x_82, hx_82, rx_82⟩ := ex_getw (I := I_69) (a := x) (j := 48) (lo := 0) (hi := 20) hUI_69.1 hLx (ro_o hkx (by decide)) rfl
        have f_83 : s_77.om = x_82 := (congrArg QT_.om hs_77).symm.trans hx_82
        refine g_if_ne C (tgt := 36) dX12_readOr_31 (by decide) (fun h_84 => ?_) (fun h_84 => ?_)
        · skip
          have n_85 : ¬ x_68 = 0 := h_84
          have r_86 := ne_lo (lo := 1) n_85 rx_68 rc_0 rfl (by decide)
          have f_87 := sz_v (fq_at hFI_56 hLx hkx (by decide) (by decide) q_23) (fq_at hFI_56 hLx hkx (by decide) (by decide) q_24) hx_80 hx_82 hx_81 (ex_68.1 n_85)
          refine g_aload_n C 0 dX12_readOr_36 rfl rfl ?_
          refine g_iconst C (v := 3) dX12_readOr_37 (by decide) ?_
          refine g_iload_n C 1 dX12_readOr_38 rfl rfl ?_
          refine g_aload_n C 0 dX12_readOr_39 rfl rfl ?_
          refine g_getI C K hLx hkx f_12_386 (v := x_81) hx_81 dX12_readOr_40 ?_
          refine g_iconst C (v := 0) dX12_readOr_43 (by decide) ?_
          have r_88 := (show Rg 0 59 x_80 from by have q1 := rx_80; have q2 := rx_82; unfold Rg at *; omega)
          refine g_callVI C K (c_X12_saysOne W9 hLx hkx 3 v_19 x_81 0 (rg_w rc_3 (by decide) (by decide)) (rv_19) (rg_w rx_81 (by decide) (by decide)) hUI_69  (eq_rg hx_80 (r_88)) (by rw [hx_80]; exact ⟨fun _ => ⟨by have := (rv_19).1; omega, by omega⟩, fun _ => ⟨by have := (rx_81).1; omega, by omega⟩, fun q => absurd q (by decide)⟩)) hLx hkx (by decide) rfl v_12_389 rfl ⟨rfl, rfl⟩ ⟨Nat.le_of_ble_eq_true rfl, Nat.le_of_ble_eq_true rfl⟩ (Nat.le_of_ble_eq_true rfl) ⟨Nat.le_of_ble_eq_true rfl, Nat.le_of_ble_eq_true rfl⟩ dX12_readOr_44 rfl (st := []) (fun x_89 I_90 J_91 h_92 => ?_)
          obtain ⟨hUI_90, hFI_90, hGJ_91, rx_89, ex_89⟩ := h_92
          have hF_93 := fq_tr hF_72 hFI_90 (by decide)
          have hG_94 := fq_tr hG_73 hGJ_91 (by decide)
          have hs_95 : NVq I_90 J_91 x b_4 = s_30 := (vq_fq wvqx hFI_90 hGJ_91 (by decide) (by decide)).trans hs_78
          have hs_96 : NWq I_90 J_91 x b_6 = s_31 := (zq_fq wzqx hFI_90 hGJ_91 (by decide) (by decide)).trans hs_79
          have hs_97 : MTq I_90 J_91 x b_8 = s_75 := (mq_fq wmqx hFI_90 hGJ_91 (by decide) (by decide)).trans hs_75
          have hs_98 : NRq I_90 J_91 x b_10 b_11 = s_76 := (nq_fq wnqx hFI_90 hGJ_91 (by decide) (by decide)).trans hs_76
          have hs_99 : QTq I_90 J_91 x = s_77 := (qq_fq wqqx hFI_90 hGJ_91 (by decide) (by decide)).trans hs_77
          obtain ⟨x_100, hx_100, rx_100, tx_100, ux_100⟩ := sa_b (lo := 1) (hi := 60) ex_89 hx_80 r_88 (by decide) (by decide)
          have r_101 := (show Rg 0 59 x_89 from by have q1 := ux_100; have q2 := r_88; unfold Rg at *; omega)
          refine g_istore_n C dX12_readOr_47 rfl (by decide) (lo2 := [(1, .int x_89), (0, .ref x)]) rfl ?_
          refine g_goto C (tgt := 14) dX12_readOr_48 (by decide) ?_
          refine g_lo (is := [1, 0]) (lo2 := [(0, .ref x), (1, .int x_89)]) rfl ?_
          exact ih_14 I_90 J_91 hUI_90 hF_93 hG_94 x_89 (r_101) x_100 (rg_w rx_100 (by decide) (by decide)) x_82 (rx_82) x_81 (rx_81) hx_100 (fq_at hFI_90 hLx hkx (by decide) (by decide) hx_82) (fq_at hFI_90 hLx hkx (by decide) (by decide) ex_68.2) (fq_at hFI_90 hLx hkx (by decide) (by decide) hx_81) (by (try simp only [c_41, h_42, c_61, f_67, c_74, hx_80, hx_81, hx_82, f_83, h_84, hx_100, if_true, if_false, mqM_tp, mqM_size, mqM_limit, mqM_to, mqM_frm, mqM_kind, mqM_number, mqM_sign, mqM_word, MT_.w_tp, MT_.w_size, MT_.w_limit, MT_.w_to, MT_.w_frm, MT_.w_kind, MT_.w_number, MT_.w_sign, MT_.w_word, nqM_rd, nqM_rn, nqM_taped, nqM_mfault, nqM_mplace, nqM_told, nqM_hl, nqM_hd, NR_.w_rd, NR_.w_rn, NR_.w_taped, NR_.w_mfault, NR_.w_mplace, NR_.w_told, NR_.w_hl, NR_.w_hd, qqM_om, QT_.w_om, vqM_nv, NV_.w_nv, zqM_nw, NW_.w_nw] at hQ_35); (try simp only [c_41, h_42, c_61, f_67, c_74, hx_80, hx_81, hx_82, f_83, h_84, hx_100, if_true, if_false, mqM_tp, mqM_size, mqM_limit, mqM_to, mqM_frm, mqM_kind, mqM_number, mqM_sign, mqM_word, MT_.w_tp, MT_.w_size, MT_.w_limit, MT_.w_to, MT_.w_frm, MT_.w_kind, MT_.w_number, MT_.w_sign, MT_.w_word, nqM_rd, nqM_rn, nqM_taped, nqM_mfault, nqM_mplace, nqM_told, nqM_hl, nqM_hd, NR_.w_rd, NR_.w_rn, NR_.w_taped, NR_.w_mfault, NR_.w_mplace, NR_.w_told, NR_.w_hl, NR_.w_hd, qqM_om, QT_.w_om, vqM_nv, NV_.w_nv, zqM_nw, NW_.w_nw] at u_36); simp only [evqx, hs_95, hs_5, ezqx, hs_96, hs_7, emqx, hs_97, hs_9, enqx, hs_98, hs_12, eqqx, hs_99, hs_13, hQ_35, u_36, c_41, h_42, c_61, f_67, c_74, hx_80, hx_81, hx_82, f_83, h_84, hx_100, if_true, if_false, mqM_tp, mqM_size, mqM_limit, mqM_to, mqM_frm, mqM_kind, mqM_number, mqM_sign, mqM_word, MT_.w_tp, MT_.w_size, MT_.w_limit, MT_.w_to, MT_.w_frm, MT_.w_kind, MT_.w_number, MT_.w_sign, MT_.w_word, nqM_rd, nqM_rn, nqM_taped, nqM_mfault, nqM_mplace, nqM_told, nqM_hl, nqM_hd, NR_.w_rd, NR_.w_rn, NR_.w_taped, NR_.w_mfault, NR_.w_mplace, NR_.w_told, NR_.w_hl, NR_.w_hd, qqM_om, QT_.w_om, vqM_nv, NV_.w_nv, zqM_nw, NW_.w_nw]) ⟨by have := tx_100; omega, by have := tx_100; omega, by have := tx_100; omega, by have := tx_100; omega⟩ (by have q9 := hm_29; have := tx_100; omega)
        · skip
          have r_102 := (⟨(rx_68).1, (eq_rg (h_84) rc_0).2⟩ : Rg 0 0 x_68)
          refine g_iconst C (v := 0) dX12_readOr_34 (by decide) ?_
          exact g_zret (ty := .boolean) (r := 0) B K rfl (rfl) ⟨hUI_69, hF_72, hG_73, rg_w rc_0 (by decide) (by decide), (by (try simp only [c_41, h_42, c_61, f_67, c_74, hx_80, hx_81, hx_82, f_83, (eq_true h_84), if_true, if_false, mqM_tp, mqM_size, mqM_limit, mqM_to, mqM_frm, mqM_kind, mqM_number, mqM_sign, mqM_word, MT_.w_tp, MT_.w_size, MT_.w_limit, MT_.w_to, MT_.w_frm, MT_.w_kind, MT_.w_number, MT_.w_sign, MT_.w_word, nqM_rd, nqM_rn, nqM_taped, nqM_mfault, nqM_mplace, nqM_told, nqM_hl, nqM_hd, NR_.w_rd, NR_.w_rn, NR_.w_taped, NR_.w_mfault, NR_.w_mplace, NR_.w_told, NR_.w_hl, NR_.w_hd, qqM_om, QT_.w_om, vqM_nv, NV_.w_nv, zqM_nw, NW_.w_nw] at hQ_35); (try simp only [c_41, h_42, c_61, f_67, c_74, hx_80, hx_81, hx_82, f_83, (eq_true h_84), if_true, if_false, mqM_tp, mqM_size, mqM_limit, mqM_to, mqM_frm, mqM_kind, mqM_number, mqM_sign, mqM_word, MT_.w_tp, MT_.w_size, MT_.w_limit, MT_.w_to, MT_.w_frm, MT_.w_kind, MT_.w_number, MT_.w_sign, MT_.w_word, nqM_rd, nqM_rn, nqM_taped, nqM_mfault, nqM_mplace, nqM_told, nqM_hl, nqM_hd, NR_.w_rd, NR_.w_rn, NR_.w_taped, NR_.w_mfault, NR_.w_mplace, NR_.w_told, NR_.w_hl, NR_.w_hd, qqM_om, QT_.w_om, vqM_nv, NV_.w_nv, zqM_nw, NW_.w_nw] at u_36); simp only [evqx, hs_78, hs_5, ezqx, hs_79, hs_7, emqx, hs_75, hs_9, enqx, hs_76, hs_12, eqqx, hs_77, hs_13, hQ_35, u_36, c_41, h_42, c_61, f_67, c_74, hx_80, hx_81, hx_82, f_83, (eq_true h_84), if_true, if_false, mqM_tp, mqM_size, mqM_limit, mqM_to, mqM_frm, mqM_kind, mqM_number, mqM_sign, mqM_word, MT_.w_tp, MT_.w_size, MT_.w_limit, MT_.w_to, MT_.w_frm, MT_.w_kind, MT_.w_number, MT_.w_sign, MT_.w_word, nqM_rd, nqM_rn, nqM_taped, nqM_mfault, nqM_mplace, nqM_told, nqM_hl, nqM_hd, NR_.w_rd, NR_.w_rn, NR_.w_taped, NR_.w_mfault, NR_.w_mplace, NR_.w_told, NR_.w_hl, NR_.w_hd, qqM_om, QT_.w_om, vqM_nv, NV_.w_nv, zqM_nw, NW_.w_nw]), (fun q => absurd rfl q), ex_68.2⟩ dX12_readOr_35
  refine g_aload_n C 0 dX12_readOr_0 rfl rfl ?_
  have f_103 : s_13.om = x_2 := (congrArg QT_.om hs_13).symm.trans hx_2
  refine g_callVI C K (c_X12_readAnd_2 W9 hLx hkx   hU  (by rw [hx_1, hx_2]; omega) (hwi)) hLx hkx (by decide) rfl v_12_383 rfl ⟨rfl, rfl⟩ ⟨Nat.le_of_ble_eq_true rfl, Nat.le_of_ble_eq_true rfl⟩ (Nat.le_of_ble_eq_true rfl) ⟨Nat.le_of_ble_eq_true rfl, Nat.le_of_ble_eq_true rfl⟩ dX12_readOr_1 rfl (st := []) (fun x_104 I_105 J_106 h_107 => ?_)
  obtain ⟨hUI_105, hFI_105, hGJ_106, rx_104, fx_104, ex_104⟩ := h_107
  have hF_108 := fq_tr hF hFI_105 (by decide)
  have hG_109 := fq_tr hG hGJ_106 (by decide)
  obtain ⟨s_111, hs_111⟩ : ∃ z, MTq I_105 J_106 x b_8 = z := ⟨_, rfl⟩
  obtain ⟨s_112, hs_112⟩ : ∃ z, NRq I_105 J_106 x b_10 b_11 = z := ⟨_, rfl⟩
  obtain ⟨s_113, hs_113⟩ : ∃ z, QTq I_105 J_106 x = z := ⟨_, rfl⟩
  have c_110 : mAndK 6 (s_5) (s_7) (s_9) (s_12) (s_13) = (x_104, s_111, s_112, s_113) := by have q := fx_104; simp only [evqx, ezqx, emqx, enqx, eqqx, hs_5, hs_7, hs_9, hs_12, hs_13, hs_111, hs_112, hs_113] at q; exact q.symm
  have hs_114 : NVq I_105 J_106 x b_4 = s_5 := (vq_fq wvqx hFI_105 hGJ_106 (by decide) (by decide)).trans hs_5
  have hs_115 : NWq I_105 J_106 x b_6 = s_7 := (zq_fq wzqx hFI_105 hGJ_106 (by decide) (by decide)).trans hs_7
  obtain ⟨x_116, hx_116, rx_116⟩ := ex_getw (I := I_105) (a := x) (j := 47) (lo := 0) (hi := 60) hUI_105.1 hLx (ro_o hkx (by decide)) rfl
  obtain ⟨x_117, hx_117, rx_117⟩ := ex_getw (I := I_105) (a := x) (j := 50) (lo := 0) (hi := 59) hUI_105.1 hLx (ro_o hkx (by decide)) rfl
  obtain ⟨x_118, hx_118, rx_118⟩ := ex_getw (I := I_105) (a := x) (j := 48) (lo := 0) (hi := 20) hUI_105.1 hLx (ro_o hkx (by decide)) rfl
  have f_119 : s_113.om = x_118 := (congrArg QT_.om hs_113).symm.trans hx_118
  refine g_if_ne C (tgt := 9) dX12_readOr_4 (by decide) (fun h_120 => ?_) (fun h_120 => ?_)
  · skip
    have n_121 : ¬ x_104 = 0 := h_120
    have r_122 := ne_lo (lo := 1) n_121 rx_104 rc_0 rfl (by decide)
    have f_123 := sz_v hx_1 hx_2 hx_116 hx_118 hx_117 (ex_104.1 n_121)
    refine g_aload_n C 0 dX12_readOr_9 rfl rfl ?_
    refine g_getI C K hLx hkx f_12_386 (v := x_117) hx_117 dX12_readOr_10 ?_
    refine g_istore_n C dX12_readOr_13 rfl (by decide) (lo2 := [(1, .int x_117), (0, .ref x)]) rfl ?_
    refine g_lo (is := [1, 0]) (lo2 := [(0, .ref x), (1, .int x_117)]) rfl ?_
    exact l_14 21 I_105 J_106 hUI_105 hF_108 hG_109 x_117 (rx_117) x_116 (rx_116) x_118 (rx_118) x_117 (rx_117) hx_116 hx_118 ex_104.2 hx_117 (by simp only [mOrK, evqx, hs_114, hs_5, ezqx, hs_115, hs_7, emqx, hs_111, hs_9, enqx, hs_112, hs_12, eqqx, hs_113, hs_13, hx_1, hx_2, hx_3, f_103, c_110, hx_116, hx_117, hx_118, f_119, h_120, if_true, if_false, mqM_tp, mqM_size, mqM_limit, mqM_to, mqM_frm, mqM_kind, mqM_number, mqM_sign, mqM_word, MT_.w_tp, MT_.w_size, MT_.w_limit, MT_.w_to, MT_.w_frm, MT_.w_kind, MT_.w_number, MT_.w_sign, MT_.w_word, nqM_rd, nqM_rn, nqM_taped, nqM_mfault, nqM_mplace, nqM_told, nqM_hl, nqM_hd, NR_.w_rd, NR_.w_rn, NR_.w_taped, NR_.w_mfault, NR_.w_mplace, NR_.w_told, NR_.w_hl, NR_.w_hd, qqM_om, QT_.w_om, vqM_nv, NV_.w_nv, zqM_nw, NW_.w_nw]) ⟨by omega, by omega, by omega, by omega⟩ (by have := (rx_118).1; omega)
  · skip
    have r_124 := (⟨(rx_104).1, (eq_rg (h_120) rc_0).2⟩ : Rg 0 0 x_104)
    refine g_iconst C (v := 0) dX12_readOr_7 (by decide) ?_
    exact g_zret (ty := .boolean) (r := 0) B K rfl (rfl) ⟨hUI_105, hF_108, hG_109, rg_w rc_0 (by decide) (by decide), (by simp only [mOrK, evqx, hs_114, hs_5, ezqx, hs_115, hs_7, emqx, hs_111, hs_9, enqx, hs_112, hs_12, eqqx, hs_113, hs_13, hx_1, hx_2, hx_3, f_103, c_110, hx_116, hx_117, hx_118, f_119, (eq_true h_120), if_true, if_false, mqM_tp, mqM_size, mqM_limit, mqM_to, mqM_frm, mqM_kind, mqM_number, mqM_sign, mqM_word, MT_.w_tp, MT_.w_size, MT_.w_limit, MT_.w_to, MT_.w_frm, MT_.w_kind, MT_.w_number, MT_.w_sign, MT_.w_word, nqM_rd, nqM_rn, nqM_taped, nqM_mfault, nqM_mplace, nqM_told, nqM_hl, nqM_hd, NR_.w_rd, NR_.w_rn, NR_.w_taped, NR_.w_mfault, NR_.w_mplace, NR_.w_told, NR_.w_hl, NR_.w_hd, qqM_om, QT_.w_om, vqM_nv, NV_.w_nv, zqM_nw, NW_.w_nw]), (fun q => absurd rfl q), ex_104.2⟩ dX12_readOr_8
set_option maxRecDepth 100000 in
set_option maxHeartbeats 8000000 in
theorem c_X12_readBracket_2 {l : Launch} {D : va_G} {cy : Nat → ClassId} {L : List Nat} {κ ln : Nat → Nat} {R : Nat → Nat → Option Nat} {I : Nat → Nat → Int32} {J : Nat → Nat → Int64} {ow : Nat → Nat × Nat} (W9 : ∀ a ∈ L, Shp L κ ln R ow a) {x : Nat} (hLx : x ∈ L) (hkx : κ x = 12) (hU : Iw L κ R ow I) (hn : (I x 47).toInt ≤ 2 * (I x 48).toInt) (hwi : I x 49 = 2) : CtI l yX12_readBracket cX12_readBracket 1 (some .boolean) { frames := 30, cells := 0, slots := 0, locals := 644 } D cy L κ ln R I J [.ref x] (fun r I2 J2 => Iw L κ R ow I2 ∧ Fq L κ ow [1205, 1206, 1207, 1208, 1209, 1210, 1211, 1213, 1247, 1248, 1249, 1250, 86600] I I2 ∧ Fq L κ ow [1212] J J2 ∧ Rg 0 1 r ∧ ((r, MTf R I2 J2 x, NRf R I2 J2 x, QTf R I2 J2 x) = mBrK 6 (NVf R I J x) (NWf R I J x) (MTf R I J x) (NRf R I J x) (QTf R I J x)) ∧ (¬ r = 0 → Sz_ x I I2 1) ∧ (I2 x 49 = 2)) := by
  obtain ⟨x_1, hx_1, rx_1⟩ := ex_getw (I := I) (a := x) (j := 47) (lo := 0) (hi := 60) hU.1 hLx (ro_o hkx (by decide)) rfl
  obtain ⟨x_2, hx_2, rx_2⟩ := ex_getw (I := I) (a := x) (j := 48) (lo := 0) (hi := 20) hU.1 hLx (ro_o hkx (by decide)) rfl
  rw [hx_1, hx_2] at hn
  obtain ⟨x_3, hx_3, rx_3⟩ := ex_getw (I := I) (a := x) (j := 50) (lo := 0) (hi := 59) hU.1 hLx (ro_o hkx (by decide)) rfl
  refine CtI.of (by decide +kernel) (Nat.le_of_ble_eq_true rfl) ?_
  intro p e s m below meth c B K
  have C := B.1
  have hF : Fq L κ ow [1205, 1206, 1207, 1208, 1209, 1210, 1211, 1213, 1247, 1248, 1249, 1250, 86600] I I := fq_rf
  have hG : Fq L κ ow [1212] J J := fq_rf
  obtain ⟨b_4, hb_4, hb_4L, hb_4k, hb_4n, hb_4o⟩ := shp_a (W9 x hLx) hkx 19 15 13 rfl (by decide)
  have evqx : ∀ I J, NVf R I J x = NVq I J x b_4 := fun I J => by simp only [NVf, rr_, Option.getD_some, hb_4]
  have wvqx : vqw_ L κ ow x b_4 := ⟨⟨hLx, hb_4L⟩, ⟨(ro_o hkx (by decide)), (ro_a hb_4k (by decide) hb_4o hkx rfl)⟩⟩
  obtain ⟨s_5, hs_5⟩ : ∃ z, NVq I J x b_4 = z := ⟨_, rfl⟩
  obtain ⟨b_6, hb_6, hb_6L, hb_6k, hb_6n, hb_6o⟩ := shp_a (W9 x hLx) hkx 14 14 389 rfl (by decide)
  have ezqx : ∀ I J, NWf R I J x = NWq I J x b_6 := fun I J => by simp only [NWf, rr_, Option.getD_some, hb_6]
  have wzqx : zqw_ L κ ow x b_6 := ⟨⟨hLx, hb_6L⟩, ⟨(ro_o hkx (by decide)), (ro_a hb_6k (by decide) hb_6o hkx rfl)⟩⟩
  obtain ⟨s_7, hs_7⟩ : ∃ z, NWq I J x b_6 = z := ⟨_, rfl⟩
  obtain ⟨b_8, hb_8, hb_8L, hb_8k, hb_8n, hb_8o⟩ := shp_a (W9 x hLx) hkx 1 14 940 rfl (by decide)
  have emqx : ∀ I J, MTf R I J x = MTq I J x b_8 := fun I J => by simp only [MTf, rr_, Option.getD_some, hb_8]
  have wmqx : mqw_ L κ ow x b_8 := ⟨⟨hLx, hb_8L⟩, ⟨(ro_o hkx (by decide)), (ro_a hb_8k (by decide) hb_8o hkx rfl)⟩⟩
  obtain ⟨s_9, hs_9⟩ : ∃ z, MTq I J x b_8 = z := ⟨_, rfl⟩
  obtain ⟨b_10, hb_10, hb_10L, hb_10k, hb_10n, hb_10o⟩ := shp_a (W9 x hLx) hkx 15 14 72 rfl (by decide)
  obtain ⟨b_11, hb_11, hb_11L, hb_11k, hb_11n, hb_11o⟩ := shp_a (W9 x hLx) hkx 20 15 13 rfl (by decide)
  have enqx : ∀ I J, NRf R I J x = NRq I J x b_10 b_11 := fun I J => by simp only [NRf, rr_, Option.getD_some, hb_10, hb_11]
  have wnqx : nqw_ L κ ow x b_10 b_11 := ⟨⟨hLx, hb_10L, hb_11L⟩, ⟨(ro_o hkx (by decide)), (ro_a hb_10k (by decide) hb_10o hkx rfl), (ro_a hb_11k (by decide) hb_11o hkx rfl)⟩⟩
  obtain ⟨s_12, hs_12⟩ : ∃ z, NRq I J x b_10 b_11 = z := ⟨_, rfl⟩
  have eqqx : ∀ I J, QTf R I J x = QTq I J x := fun I J => by simp only [QTf, rr_, Option.getD_some]
  have wqqx : qqw_ L κ ow x := ⟨hLx, (ro_o hkx (by decide))⟩
  obtain ⟨s_13, hs_13⟩ : ∃ z, QTq I J x = z := ⟨_, rfl⟩
  refine g_lo (is := [0]) (lo2 := [(0, .ref x)]) rfl ?_
  refine g_aload_n C 0 dX12_readBracket_0 rfl rfl ?_
  have f_14 : s_13.om = x_2 := (congrArg QT_.om hs_13).symm.trans hx_2
  refine g_callVI C K (c_X12_readOr_2 W9 hLx hkx   hU  (by rw [hx_1, hx_2]; omega) (hwi)) hLx hkx (by decide) rfl v_12_413 rfl ⟨rfl, rfl⟩ ⟨Nat.le_of_ble_eq_true rfl, Nat.le_of_ble_eq_true rfl⟩ (Nat.le_of_ble_eq_true rfl) ⟨Nat.le_of_ble_eq_true rfl, Nat.le_of_ble_eq_true rfl⟩ dX12_readBracket_1 rfl (st := []) (fun x_15 I_16 J_17 h_18 => ?_)
  obtain ⟨hUI_16, hFI_16, hGJ_17, rx_15, fx_15, ex_15⟩ := h_18
  have hF_19 := fq_tr hF hFI_16 (by decide)
  have hG_20 := fq_tr hG hGJ_17 (by decide)
  obtain ⟨s_22, hs_22⟩ : ∃ z, MTq I_16 J_17 x b_8 = z := ⟨_, rfl⟩
  obtain ⟨s_23, hs_23⟩ : ∃ z, NRq I_16 J_17 x b_10 b_11 = z := ⟨_, rfl⟩
  obtain ⟨s_24, hs_24⟩ : ∃ z, QTq I_16 J_17 x = z := ⟨_, rfl⟩
  have c_21 : mOrK 6 (s_5) (s_7) (s_9) (s_12) (s_13) = (x_15, s_22, s_23, s_24) := by have q := fx_15; simp only [evqx, ezqx, emqx, enqx, eqqx, hs_5, hs_7, hs_9, hs_12, hs_13, hs_22, hs_23, hs_24] at q; exact q.symm
  have hs_25 : NVq I_16 J_17 x b_4 = s_5 := (vq_fq wvqx hFI_16 hGJ_17 (by decide) (by decide)).trans hs_5
  have hs_26 : NWq I_16 J_17 x b_6 = s_7 := (zq_fq wzqx hFI_16 hGJ_17 (by decide) (by decide)).trans hs_7
  obtain ⟨x_27, hx_27, rx_27⟩ := ex_getw (I := I_16) (a := x) (j := 47) (lo := 0) (hi := 60) hUI_16.1 hLx (ro_o hkx (by decide)) rfl
  obtain ⟨x_28, hx_28, rx_28⟩ := ex_getw (I := I_16) (a := x) (j := 50) (lo := 0) (hi := 59) hUI_16.1 hLx (ro_o hkx (by decide)) rfl
  obtain ⟨x_29, hx_29, rx_29⟩ := ex_getw (I := I_16) (a := x) (j := 48) (lo := 0) (hi := 20) hUI_16.1 hLx (ro_o hkx (by decide)) rfl
  have f_30 : s_24.om = x_29 := (congrArg QT_.om hs_24).symm.trans hx_29
  refine g_if_ne C (tgt := 9) dX12_readBracket_4 (by decide) (fun h_31 => ?_) (fun h_31 => ?_)
  · skip
    have n_32 : ¬ x_15 = 0 := h_31
    have r_33 := ne_lo (lo := 1) n_32 rx_15 rc_0 rfl (by decide)
    have f_34 := sz_v hx_1 hx_2 hx_27 hx_29 hx_28 (ex_15.1 n_32)
    refine g_aload_n C 0 dX12_readBracket_9 rfl rfl ?_
    refine g_bipush C (v := 41) dX12_readBracket_10 (by decide) ?_
    obtain ⟨x_35, hx_35, rx_35⟩ := ex_getw (I := I_16) (a := x) (j := 7) (lo := 0) (hi := 4) hUI_16.1 hLx (ro_o hkx (by decide)) rfl
    have f_36 : s_22.kind = x_35 := (congrArg MT_.kind hs_22).symm.trans hx_35
    refine g_callVI C K (c_X12_isSign W9 hLx hkx 41 (rg_w rc_41 (by decide) (by decide)) hUI_16) hLx hkx (by decide) rfl v_12_159 rfl ⟨rfl, rfl⟩ ⟨Nat.le_of_ble_eq_true rfl, Nat.le_of_ble_eq_true rfl⟩ (Nat.le_of_ble_eq_true rfl) ⟨Nat.le_of_ble_eq_true rfl, Nat.le_of_ble_eq_true rfl⟩ dX12_readBracket_12 rfl (st := []) (fun x_37 I_38 J_39 h_40 => ?_)
    obtain ⟨rfl, rfl, rx_37, fx_37, ex_37⟩ := h_40
    have c_41 : mIsSign (41) (s_22) = x_37 := by have q := fx_37; simp only [emqx, hs_22] at q; exact q.symm
    have q_42 := hx_35
    refine g_if_ne C (tgt := 24) dX12_readBracket_15 (by decide) (fun h_43 => ?_) (fun h_43 => ?_)
    · skip
      have n_44 : ¬ x_37 = 0 := h_43
      have r_45 := ne_lo (lo := 1) n_44 rx_37 rc_0 rfl (by decide)
      have r_46 := rg_i rx_35 (eq_rg q_42.symm ((ex_37) n_44)) (lo := 4) (hi := 4) (by decide) (by decide)
      refine g_aload_n C 0 dX12_readBracket_24 rfl rfl ?_
      refine g_callVV C K (c_X12_go W9 hLx hkx   hUI_16) hLx hkx (by decide) rfl v_12_156 rfl ⟨rfl, rfl⟩ ⟨Nat.le_of_ble_eq_true rfl, Nat.le_of_ble_eq_true rfl⟩ (Nat.le_of_ble_eq_true rfl) ⟨Nat.le_of_ble_eq_true rfl, Nat.le_of_ble_eq_true rfl⟩ dX12_readBracket_25 rfl (st := []) (fun I_48 J_49 h_50 => ?_)
      obtain ⟨hUI_48, hFI_48, hGJ_49, fx_47, ex_47⟩ := h_50
      have hF_51 := fq_tr hF_19 hFI_48 (by decide)
      have hG_52 := fq_tr hG_20 hGJ_49 (by decide)
      obtain ⟨s_54, hs_54⟩ : ∃ z, MTq I_48 J_49 x b_8 = z := ⟨_, rfl⟩
      have c_53 : mGo (s_22) = s_54 := by have q := fx_47; simp only [emqx, hs_22, hs_54] at q; exact q.symm
      have hs_55 : NVq I_48 J_49 x b_4 = s_5 := (vq_fq wvqx hFI_48 hGJ_49 (by decide) (by decide)).trans hs_25
      have hs_56 : NWq I_48 J_49 x b_6 = s_7 := (zq_fq wzqx hFI_48 hGJ_49 (by decide) (by decide)).trans hs_26
      have hs_57 : NRq I_48 J_49 x b_10 b_11 = s_23 := (nq_fq wnqx hFI_48 hGJ_49 (by decide) (by decide)).trans hs_23
      have hs_58 : QTq I_48 J_49 x = s_24 := (qq_fq wqqx hFI_48 hGJ_49 (by decide) (by decide)).trans hs_24
      refine g_iconst C (v := 1) dX12_readBracket_28 (by decide) ?_
      exact g_zret (ty := .boolean) (r := 1) B K rfl (rfl) ⟨hUI_48, hF_51, hG_52, rg_w rc_1 (by decide) (by decide), (by simp only [mBrK, mBadQ, evqx, hs_55, hs_5, ezqx, hs_56, hs_7, emqx, hs_54, hs_9, enqx, hs_57, hs_12, eqqx, hs_58, hs_13, hx_1, hx_2, hx_3, f_14, c_21, hx_27, hx_28, hx_29, f_30, h_31, hx_35, f_36, c_41, h_43, c_53, if_true, if_false, mqM_tp, mqM_size, mqM_limit, mqM_to, mqM_frm, mqM_kind, mqM_number, mqM_sign, mqM_word, MT_.w_tp, MT_.w_size, MT_.w_limit, MT_.w_to, MT_.w_frm, MT_.w_kind, MT_.w_number, MT_.w_sign, MT_.w_word, nqM_rd, nqM_rn, nqM_taped, nqM_mfault, nqM_mplace, nqM_told, nqM_hl, nqM_hd, NR_.w_rd, NR_.w_rn, NR_.w_taped, NR_.w_mfault, NR_.w_mplace, NR_.w_told, NR_.w_hl, NR_.w_hd, qqM_om, QT_.w_om, vqM_nv, NV_.w_nv, zqM_nw, NW_.w_nw]), (fun _ => (sz_m hx_1 hx_2 (fq_at hFI_48 hLx hkx (by decide) (by decide) hx_27) (fq_at hFI_48 hLx hkx (by decide) (by decide) hx_29) (fq_at hFI_48 hLx hkx (by decide) (by decide) hx_28) ⟨by omega, by omega, by omega, by omega⟩)), (fq_at hFI_48 hLx hkx (by decide) (by decide) ex_15.2)⟩ dX12_readBracket_29
    · skip
      have r_59 := (⟨(rx_37).1, (eq_rg (h_43) rc_0).2⟩ : Rg 0 0 x_37)
      refine g_aload_n C 0 dX12_readBracket_18 rfl rfl ?_
      refine g_iconst C (v := 1) dX12_readBracket_19 (by decide) ?_
      refine g_callVI C K (c_X12_bad W9 hLx hkx 1 (rg_w rc_1 (by decide) (by decide)) hUI_16) hLx hkx (by decide) rfl v_12_146 rfl ⟨rfl, rfl⟩ ⟨Nat.le_of_ble_eq_true rfl, Nat.le_of_ble_eq_true rfl⟩ (Nat.le_of_ble_eq_true rfl) ⟨Nat.le_of_ble_eq_true rfl, Nat.le_of_ble_eq_true rfl⟩ dX12_readBracket_20 rfl (st := []) (fun x_60 I_61 J_62 h_63 => ?_)
      obtain ⟨hUI_61, hFI_61, hGJ_62, rx_60, fx_60⟩ := h_63
      have hF_64 := fq_tr hF_19 hFI_61 (by decide)
      have hG_65 := fq_tr hG_20 hGJ_62 (by decide)
      obtain ⟨s_67, hs_67⟩ : ∃ z, MTq I_61 J_62 x b_8 = z := ⟨_, rfl⟩
      obtain ⟨s_68, hs_68⟩ : ∃ z, NRq I_61 J_62 x b_10 b_11 = z := ⟨_, rfl⟩
      have c_66 : mBad (1) (s_22) (s_23) = (x_60, s_67, s_68) := by have q := fx_60; simp only [emqx, enqx, hs_22, hs_23, hs_67, hs_68] at q; exact q.symm
      have hs_69 : NVq I_61 J_62 x b_4 = s_5 := (vq_fq wvqx hFI_61 hGJ_62 (by decide) (by decide)).trans hs_25
      have hs_70 : NWq I_61 J_62 x b_6 = s_7 := (zq_fq wzqx hFI_61 hGJ_62 (by decide) (by decide)).trans hs_26
      have hs_71 : QTq I_61 J_62 x = s_24 := (qq_fq wqqx hFI_61 hGJ_62 (by decide) (by decide)).trans hs_24
      exact g_zret (ty := .boolean) (r := x_60) B K rfl (nar_z (rg_w rx_60 (by decide) (by decide))) ⟨hUI_61, hF_64, hG_65, rg_w rx_60 (by decide) (by decide), (by simp only [mBrK, mBadQ, evqx, hs_69, hs_5, ezqx, hs_70, hs_7, emqx, hs_67, hs_9, enqx, hs_68, hs_12, eqqx, hs_71, hs_13, hx_1, hx_2, hx_3, f_14, c_21, hx_27, hx_28, hx_29, f_30, h_31, hx_35, f_36, c_41, (eq_true h_43), c_66, if_true, if_false, mqM_tp, mqM_size, mqM_limit, mqM_to, mqM_frm, mqM_kind, mqM_number, mqM_sign, mqM_word, MT_.w_tp, MT_.w_size, MT_.w_limit, MT_.w_to, MT_.w_frm, MT_.w_kind, MT_.w_number, MT_.w_sign, MT_.w_word, nqM_rd, nqM_rn, nqM_taped, nqM_mfault, nqM_mplace, nqM_told, nqM_hl, nqM_hd, NR_.w_rd, NR_.w_rn, NR_.w_taped, NR_.w_mfault, NR_.w_mplace, NR_.w_told, NR_.w_hl, NR_.w_hd, qqM_om, QT_.w_om, vqM_nv, NV_.w_nv, zqM_nw, NW_.w_nw]), (fun q => ne_no q rx_60 rc_0), (fq_at hFI_61 hLx hkx (by decide) (by decide) ex_15.2)⟩ dX12_readBracket_23
  · skip
    have r_72 := (⟨(rx_15).1, (eq_rg (h_31) rc_0).2⟩ : Rg 0 0 x_15)
    refine g_iconst C (v := 0) dX12_readBracket_7 (by decide) ?_
    exact g_zret (ty := .boolean) (r := 0) B K rfl (rfl) ⟨hUI_16, hF_19, hG_20, rg_w rc_0 (by decide) (by decide), (by simp only [mBrK, mBadQ, evqx, hs_25, hs_5, ezqx, hs_26, hs_7, emqx, hs_22, hs_9, enqx, hs_23, hs_12, eqqx, hs_24, hs_13, hx_1, hx_2, hx_3, f_14, c_21, hx_27, hx_28, hx_29, f_30, (eq_true h_31), if_true, if_false, mqM_tp, mqM_size, mqM_limit, mqM_to, mqM_frm, mqM_kind, mqM_number, mqM_sign, mqM_word, MT_.w_tp, MT_.w_size, MT_.w_limit, MT_.w_to, MT_.w_frm, MT_.w_kind, MT_.w_number, MT_.w_sign, MT_.w_word, nqM_rd, nqM_rn, nqM_taped, nqM_mfault, nqM_mplace, nqM_told, nqM_hl, nqM_hd, NR_.w_rd, NR_.w_rn, NR_.w_taped, NR_.w_mfault, NR_.w_mplace, NR_.w_told, NR_.w_hl, NR_.w_hd, qqM_om, QT_.w_om, vqM_nv, NV_.w_nv, zqM_nw, NW_.w_nw]), (fun q => absurd rfl q), ex_15.2⟩ dX12_readBracket_8
set_option maxRecDepth 100000 in
set_option maxHeartbeats 8000000 in
theorem c_X12_readNot_2 {l : Launch} {D : va_G} {cy : Nat → ClassId} {L : List Nat} {κ ln : Nat → Nat} {R : Nat → Nat → Option Nat} {I : Nat → Nat → Int32} {J : Nat → Nat → Int64} {ow : Nat → Nat × Nat} (W9 : ∀ a ∈ L, Shp L κ ln R ow a) {x : Nat} (hLx : x ∈ L) (hkx : κ x = 12) (hU : Iw L κ R ow I) (hn : (I x 47).toInt ≤ 2 * (I x 48).toInt) (hwi : I x 49 = 2) : CtI l yX12_readNot cX12_readNot 1 (some .boolean) { frames := 28, cells := 0, slots := 0, locals := 602 } D cy L κ ln R I J [.ref x] (fun r I2 J2 => Iw L κ R ow I2 ∧ Fq L κ ow [1205, 1206, 1207, 1208, 1209, 1210, 1211, 1213, 1247, 1248, 1249, 1250, 86600] I I2 ∧ Fq L κ ow [1212] J J2 ∧ Rg 0 1 r ∧ ((r, MTf R I2 J2 x, NRf R I2 J2 x, QTf R I2 J2 x) = mNtK 6 (NVf R I J x) (NWf R I J x) (MTf R I J x) (NRf R I J x) (QTf R I J x)) ∧ (¬ r = 0 → Sz_ x I I2 0) ∧ (I2 x 49 = 2)) := by
  obtain ⟨x_1, hx_1, rx_1⟩ := ex_getw (I := I) (a := x) (j := 47) (lo := 0) (hi := 60) hU.1 hLx (ro_o hkx (by decide)) rfl
  obtain ⟨x_2, hx_2, rx_2⟩ := ex_getw (I := I) (a := x) (j := 48) (lo := 0) (hi := 20) hU.1 hLx (ro_o hkx (by decide)) rfl
  rw [hx_1, hx_2] at hn
  obtain ⟨x_3, hx_3, rx_3⟩ := ex_getw (I := I) (a := x) (j := 50) (lo := 0) (hi := 59) hU.1 hLx (ro_o hkx (by decide)) rfl
  refine CtI.of (by decide +kernel) (Nat.le_of_ble_eq_true rfl) ?_
  intro p e s m below meth c B K
  have C := B.1
  have hF : Fq L κ ow [1205, 1206, 1207, 1208, 1209, 1210, 1211, 1213, 1247, 1248, 1249, 1250, 86600] I I := fq_rf
  have hG : Fq L κ ow [1212] J J := fq_rf
  obtain ⟨b_4, hb_4, hb_4L, hb_4k, hb_4n, hb_4o⟩ := shp_a (W9 x hLx) hkx 19 15 13 rfl (by decide)
  have evqx : ∀ I J, NVf R I J x = NVq I J x b_4 := fun I J => by simp only [NVf, rr_, Option.getD_some, hb_4]
  have wvqx : vqw_ L κ ow x b_4 := ⟨⟨hLx, hb_4L⟩, ⟨(ro_o hkx (by decide)), (ro_a hb_4k (by decide) hb_4o hkx rfl)⟩⟩
  obtain ⟨s_5, hs_5⟩ : ∃ z, NVq I J x b_4 = z := ⟨_, rfl⟩
  obtain ⟨b_6, hb_6, hb_6L, hb_6k, hb_6n, hb_6o⟩ := shp_a (W9 x hLx) hkx 14 14 389 rfl (by decide)
  have ezqx : ∀ I J, NWf R I J x = NWq I J x b_6 := fun I J => by simp only [NWf, rr_, Option.getD_some, hb_6]
  have wzqx : zqw_ L κ ow x b_6 := ⟨⟨hLx, hb_6L⟩, ⟨(ro_o hkx (by decide)), (ro_a hb_6k (by decide) hb_6o hkx rfl)⟩⟩
  obtain ⟨s_7, hs_7⟩ : ∃ z, NWq I J x b_6 = z := ⟨_, rfl⟩
  obtain ⟨b_8, hb_8, hb_8L, hb_8k, hb_8n, hb_8o⟩ := shp_a (W9 x hLx) hkx 1 14 940 rfl (by decide)
  have emqx : ∀ I J, MTf R I J x = MTq I J x b_8 := fun I J => by simp only [MTf, rr_, Option.getD_some, hb_8]
  have wmqx : mqw_ L κ ow x b_8 := ⟨⟨hLx, hb_8L⟩, ⟨(ro_o hkx (by decide)), (ro_a hb_8k (by decide) hb_8o hkx rfl)⟩⟩
  obtain ⟨s_9, hs_9⟩ : ∃ z, MTq I J x b_8 = z := ⟨_, rfl⟩
  obtain ⟨b_10, hb_10, hb_10L, hb_10k, hb_10n, hb_10o⟩ := shp_a (W9 x hLx) hkx 15 14 72 rfl (by decide)
  obtain ⟨b_11, hb_11, hb_11L, hb_11k, hb_11n, hb_11o⟩ := shp_a (W9 x hLx) hkx 20 15 13 rfl (by decide)
  have enqx : ∀ I J, NRf R I J x = NRq I J x b_10 b_11 := fun I J => by simp only [NRf, rr_, Option.getD_some, hb_10, hb_11]
  have wnqx : nqw_ L κ ow x b_10 b_11 := ⟨⟨hLx, hb_10L, hb_11L⟩, ⟨(ro_o hkx (by decide)), (ro_a hb_10k (by decide) hb_10o hkx rfl), (ro_a hb_11k (by decide) hb_11o hkx rfl)⟩⟩
  obtain ⟨s_12, hs_12⟩ : ∃ z, NRq I J x b_10 b_11 = z := ⟨_, rfl⟩
  have eqqx : ∀ I J, QTf R I J x = QTq I J x := fun I J => by simp only [QTf, rr_, Option.getD_some]
  have wqqx : qqw_ L κ ow x := ⟨hLx, (ro_o hkx (by decide))⟩
  obtain ⟨s_13, hs_13⟩ : ∃ z, QTq I J x = z := ⟨_, rfl⟩
  refine g_lo (is := [0]) (lo2 := [(0, .ref x)]) rfl ?_
  refine g_aload_n C 0 dX12_readNot_0 rfl rfl ?_
  have f_14 : s_13.om = x_2 := (congrArg QT_.om hs_13).symm.trans hx_2
  refine g_callVI C K (c_X12_readSaid_2 W9 hLx hkx   hU  (by rw [hx_1, hx_2]; omega) (hwi)) hLx hkx (by decide) rfl v_12_392 rfl ⟨rfl, rfl⟩ ⟨Nat.le_of_ble_eq_true rfl, Nat.le_of_ble_eq_true rfl⟩ (Nat.le_of_ble_eq_true rfl) ⟨Nat.le_of_ble_eq_true rfl, Nat.le_of_ble_eq_true rfl⟩ dX12_readNot_1 rfl (st := []) (fun x_15 I_16 J_17 h_18 => ?_)
  obtain ⟨hUI_16, hFI_16, hGJ_17, rx_15, fx_15, ex_15⟩ := h_18
  have hF_19 := fq_tr hF hFI_16 (by decide)
  have hG_20 := fq_tr hG hGJ_17 (by decide)
  obtain ⟨s_22, hs_22⟩ : ∃ z, MTq I_16 J_17 x b_8 = z := ⟨_, rfl⟩
  obtain ⟨s_23, hs_23⟩ : ∃ z, NRq I_16 J_17 x b_10 b_11 = z := ⟨_, rfl⟩
  obtain ⟨s_24, hs_24⟩ : ∃ z, QTq I_16 J_17 x = z := ⟨_, rfl⟩
  have c_21 : mSaid 6 (s_5) (s_7) (s_9) (s_12) (s_13) = (x_15, s_22, s_23, s_24) := by have q := fx_15; simp only [evqx, ezqx, emqx, enqx, eqqx, hs_5, hs_7, hs_9, hs_12, hs_13, hs_22, hs_23, hs_24] at q; exact q.symm
  have hs_25 : NVq I_16 J_17 x b_4 = s_5 := (vq_fq wvqx hFI_16 hGJ_17 (by decide) (by decide)).trans hs_5
  have hs_26 : NWq I_16 J_17 x b_6 = s_7 := (zq_fq wzqx hFI_16 hGJ_17 (by decide) (by decide)).trans hs_7
  obtain ⟨x_27, hx_27, rx_27⟩ := ex_getw (I := I_16) (a := x) (j := 47) (lo := 0) (hi := 60) hUI_16.1 hLx (ro_o hkx (by decide)) rfl
  obtain ⟨x_28, hx_28, rx_28⟩ := ex_getw (I := I_16) (a := x) (j := 50) (lo := 0) (hi := 59) hUI_16.1 hLx (ro_o hkx (by decide)) rfl
  obtain ⟨x_29, hx_29, rx_29⟩ := ex_getw (I := I_16) (a := x) (j := 48) (lo := 0) (hi := 20) hUI_16.1 hLx (ro_o hkx (by decide)) rfl
  have f_30 : s_24.om = x_29 := (congrArg QT_.om hs_24).symm.trans hx_29
  refine g_if_ne C (tgt := 9) dX12_readNot_4 (by decide) (fun h_31 => ?_) (fun h_31 => ?_)
  · skip
    have n_32 : ¬ x_15 = 0 := h_31
    have r_33 := ne_lo (lo := 1) n_32 rx_15 rc_0 rfl (by decide)
    have f_34 := sz_v hx_1 hx_2 hx_27 hx_29 hx_28 (ex_15.1 n_32)
    refine g_aload_n C 0 dX12_readNot_9 rfl rfl ?_
    refine g_aload_n C 0 dX12_readNot_10 rfl rfl ?_
    refine g_iconst C (v := 1) dX12_readNot_11 (by decide) ?_
    refine g_aload_n C 0 dX12_readNot_12 rfl rfl ?_
    refine g_getI C K hLx hkx f_12_386 (v := x_28) hx_28 dX12_readNot_13 ?_
    refine g_iconst C (v := 0) dX12_readNot_16 (by decide) ?_
    refine g_iconst C (v := 0) dX12_readNot_17 (by decide) ?_
    have r_35 := (show Rg 0 59 x_27 from by have q1 := rx_27; have q2 := rx_29; unfold Rg at *; omega)
    refine g_callVI C K (c_X12_saysOne W9 hLx hkx 1 x_28 0 0 (rg_w rc_1 (by decide) (by decide)) (rx_28) (rg_w rc_0 (by decide) (by decide)) hUI_16  (eq_rg hx_27 (r_35)) (by rw [hx_27]; exact ⟨fun _ => ⟨by have := (rx_28).1; omega, by omega⟩, fun q => absurd q (by decide), fun q => absurd q (by decide)⟩)) hLx hkx (by decide) rfl v_12_389 rfl ⟨rfl, rfl⟩ ⟨Nat.le_of_ble_eq_true rfl, Nat.le_of_ble_eq_true rfl⟩ (Nat.le_of_ble_eq_true rfl) ⟨Nat.le_of_ble_eq_true rfl, Nat.le_of_ble_eq_true rfl⟩ dX12_readNot_18 rfl (st := [.ref x]) (fun x_36 I_37 J_38 h_39 => ?_)
    obtain ⟨hUI_37, hFI_37, hGJ_38, rx_36, ex_36⟩ := h_39
    have hF_40 := fq_tr hF_19 hFI_37 (by decide)
    have hG_41 := fq_tr hG_20 hGJ_38 (by decide)
    have hs_42 : NVq I_37 J_38 x b_4 = s_5 := (vq_fq wvqx hFI_37 hGJ_38 (by decide) (by decide)).trans hs_25
    have hs_43 : NWq I_37 J_38 x b_6 = s_7 := (zq_fq wzqx hFI_37 hGJ_38 (by decide) (by decide)).trans hs_26
    have hs_44 : MTq I_37 J_38 x b_8 = s_22 := (mq_fq wmqx hFI_37 hGJ_38 (by decide) (by decide)).trans hs_22
    have hs_45 : NRq I_37 J_38 x b_10 b_11 = s_23 := (nq_fq wnqx hFI_37 hGJ_38 (by decide) (by decide)).trans hs_23
    have hs_46 : QTq I_37 J_38 x = s_24 := (qq_fq wqqx hFI_37 hGJ_38 (by decide) (by decide)).trans hs_24
    obtain ⟨x_47, hx_47, rx_47, tx_47, ux_47⟩ := sa_b (lo := 1) (hi := 60) ex_36 hx_27 r_35 (by decide) (by decide)
    have r_48 := (show Rg 0 59 x_36 from by have q1 := ux_47; have q2 := r_35; unfold Rg at *; omega)
    refine h_putI C K hLx hkx f_12_386 p_12_50 dX12_readNot_21 (fun I_49 hI_49 => ?_)
    have hU_50 := iw_put W9 hUI_37 hI_49 (ro_o hkx (by decide)) (lo := 0) (hi := 59) (rfl) (r_48) rfl
    have hF_51 := fq_puto hF_40 hI_49 hkx (by decide) (by decide)
    have hs_52 : NVq I_49 J_38 x b_4 = s_5 := by rw [hI_49]; exact (vq_oI wvqx (ro_o hkx (by decide)) (by decide)).trans hs_42
    have hs_53 : NWq I_49 J_38 x b_6 = s_7 := by rw [hI_49]; exact (zq_oI wzqx (ro_o hkx (by decide)) (by decide)).trans hs_43
    have hs_54 : MTq I_49 J_38 x b_8 = s_22 := by rw [hI_49]; exact (mq_uIt wmqx (by decide)).trans hs_44
    have hs_55 : NRq I_49 J_38 x b_10 b_11 = s_23 := by rw [hI_49]; exact (nq_uIt wnqx (by decide)).trans hs_45
    have hs_56 : QTq I_49 J_38 x = s_24 := by rw [hI_49]; exact (qq_uIt wqqx (by decide)).trans hs_46
    refine g_iconst C (v := 1) dX12_readNot_24 (by decide) ?_
    exact g_zret (ty := .boolean) (r := 1) B K rfl (rfl) ⟨hU_50, hF_51, hG_41, rg_w rc_1 (by decide) (by decide), (by simp only [mNtK, evqx, hs_52, hs_5, ezqx, hs_53, hs_7, emqx, hs_54, hs_9, enqx, hs_55, hs_12, eqqx, hs_56, hs_13, hx_1, hx_2, hx_3, f_14, c_21, hx_27, hx_28, hx_29, f_30, h_31, hx_47, if_true, if_false, mqM_tp, mqM_size, mqM_limit, mqM_to, mqM_frm, mqM_kind, mqM_number, mqM_sign, mqM_word, MT_.w_tp, MT_.w_size, MT_.w_limit, MT_.w_to, MT_.w_frm, MT_.w_kind, MT_.w_number, MT_.w_sign, MT_.w_word, nqM_rd, nqM_rn, nqM_taped, nqM_mfault, nqM_mplace, nqM_told, nqM_hl, nqM_hd, NR_.w_rd, NR_.w_rn, NR_.w_taped, NR_.w_mfault, NR_.w_mplace, NR_.w_told, NR_.w_hl, NR_.w_hd, qqM_om, QT_.w_om, vqM_nv, NV_.w_nv, zqM_nw, NW_.w_nw]), (fun _ => (sz_m hx_1 hx_2 (kp_j hI_49 (by decide) hx_47) (kp_j hI_49 (by decide) (fq_at hFI_37 hLx hkx (by decide) (by decide) hx_29)) (kp_s hI_49) ⟨by have := tx_47; omega, by have := tx_47; omega, by have := tx_47; omega, by have := tx_47; omega⟩)), (kp_j hI_49 (by decide) (fq_at hFI_37 hLx hkx (by decide) (by decide) ex_15.2))⟩ dX12_readNot_25
  · skip
    have r_57 := (⟨(rx_15).1, (eq_rg (h_31) rc_0).2⟩ : Rg 0 0 x_15)
    refine g_iconst C (v := 0) dX12_readNot_7 (by decide) ?_
    exact g_zret (ty := .boolean) (r := 0) B K rfl (rfl) ⟨hUI_16, hF_19, hG_20, rg_w rc_0 (by decide) (by decide), (by simp only [mNtK, evqx, hs_25, hs_5, ezqx, hs_26, hs_7, emqx, hs_22, hs_9, enqx, hs_23, hs_12, eqqx, hs_24, hs_13, hx_1, hx_2, hx_3, f_14, c_21, hx_27, hx_28, hx_29, f_30, (eq_true h_31), if_true, if_false, mqM_tp, mqM_size, mqM_limit, mqM_to, mqM_frm, mqM_kind, mqM_number, mqM_sign, mqM_word, MT_.w_tp, MT_.w_size, MT_.w_limit, MT_.w_to, MT_.w_frm, MT_.w_kind, MT_.w_number, MT_.w_sign, MT_.w_word, nqM_rd, nqM_rn, nqM_taped, nqM_mfault, nqM_mplace, nqM_told, nqM_hl, nqM_hd, NR_.w_rd, NR_.w_rn, NR_.w_taped, NR_.w_mfault, NR_.w_mplace, NR_.w_told, NR_.w_hl, NR_.w_hd, qqM_om, QT_.w_om, vqM_nv, NV_.w_nv, zqM_nw, NW_.w_nw]), (fun q => absurd rfl q), ex_15.2⟩ dX12_readNot_8
set_option maxRecDepth 100000 in
set_option maxHeartbeats 8000000 in
theorem c_X12_readSaid_1 {l : Launch} {D : va_G} {cy : Nat → ClassId} {L : List Nat} {κ ln : Nat → Nat} {R : Nat → Nat → Option Nat} {I : Nat → Nat → Int32} {J : Nat → Nat → Int64} {ow : Nat → Nat × Nat} (W9 : ∀ a ∈ L, Shp L κ ln R ow a) {x : Nat} (hLx : x ∈ L) (hkx : κ x = 12) (hU : Iw L κ R ow I) (hn : (I x 47).toInt ≤ 2 * (I x 48).toInt) (hwi : I x 49 = 1) : CtI l yX12_readSaid cX12_readSaid 4 (some .boolean) { frames := 31, cells := 0, slots := 0, locals := 664 } D cy L κ ln R I J [.ref x] (fun r I2 J2 => Iw L κ R ow I2 ∧ Fq L κ ow [1205, 1206, 1207, 1208, 1209, 1210, 1211, 1213, 1247, 1248, 1249, 1250, 86600] I I2 ∧ Fq L κ ow [1212] J J2 ∧ Rg 0 1 r ∧ ((r, MTf R I2 J2 x, NRf R I2 J2 x, QTf R I2 J2 x) = mSaid 7 (NVf R I J x) (NWf R I J x) (MTf R I J x) (NRf R I J x) (QTf R I J x)) ∧ (¬ r = 0 → Sz_ x I I2 1) ∧ (I2 x 49 = 1)) := by
  obtain ⟨x_1, hx_1, rx_1⟩ := ex_getw (I := I) (a := x) (j := 47) (lo := 0) (hi := 60) hU.1 hLx (ro_o hkx (by decide)) rfl
  obtain ⟨x_2, hx_2, rx_2⟩ := ex_getw (I := I) (a := x) (j := 48) (lo := 0) (hi := 20) hU.1 hLx (ro_o hkx (by decide)) rfl
  rw [hx_1, hx_2] at hn
  obtain ⟨x_3, hx_3, rx_3⟩ := ex_getw (I := I) (a := x) (j := 50) (lo := 0) (hi := 59) hU.1 hLx (ro_o hkx (by decide)) rfl
  refine CtI.of (by decide +kernel) (Nat.le_of_ble_eq_true rfl) ?_
  intro p e s m below meth c B K
  have C := B.1
  have hF : Fq L κ ow [1205, 1206, 1207, 1208, 1209, 1210, 1211, 1213, 1247, 1248, 1249, 1250, 86600] I I := fq_rf
  have hG : Fq L κ ow [1212] J J := fq_rf
  obtain ⟨b_4, hb_4, hb_4L, hb_4k, hb_4n, hb_4o⟩ := shp_a (W9 x hLx) hkx 19 15 13 rfl (by decide)
  have evqx : ∀ I J, NVf R I J x = NVq I J x b_4 := fun I J => by simp only [NVf, rr_, Option.getD_some, hb_4]
  have wvqx : vqw_ L κ ow x b_4 := ⟨⟨hLx, hb_4L⟩, ⟨(ro_o hkx (by decide)), (ro_a hb_4k (by decide) hb_4o hkx rfl)⟩⟩
  obtain ⟨s_5, hs_5⟩ : ∃ z, NVq I J x b_4 = z := ⟨_, rfl⟩
  obtain ⟨b_6, hb_6, hb_6L, hb_6k, hb_6n, hb_6o⟩ := shp_a (W9 x hLx) hkx 14 14 389 rfl (by decide)
  have ezqx : ∀ I J, NWf R I J x = NWq I J x b_6 := fun I J => by simp only [NWf, rr_, Option.getD_some, hb_6]
  have wzqx : zqw_ L κ ow x b_6 := ⟨⟨hLx, hb_6L⟩, ⟨(ro_o hkx (by decide)), (ro_a hb_6k (by decide) hb_6o hkx rfl)⟩⟩
  obtain ⟨s_7, hs_7⟩ : ∃ z, NWq I J x b_6 = z := ⟨_, rfl⟩
  obtain ⟨b_8, hb_8, hb_8L, hb_8k, hb_8n, hb_8o⟩ := shp_a (W9 x hLx) hkx 1 14 940 rfl (by decide)
  have emqx : ∀ I J, MTf R I J x = MTq I J x b_8 := fun I J => by simp only [MTf, rr_, Option.getD_some, hb_8]
  have wmqx : mqw_ L κ ow x b_8 := ⟨⟨hLx, hb_8L⟩, ⟨(ro_o hkx (by decide)), (ro_a hb_8k (by decide) hb_8o hkx rfl)⟩⟩
  obtain ⟨s_9, hs_9⟩ : ∃ z, MTq I J x b_8 = z := ⟨_, rfl⟩
  obtain ⟨b_10, hb_10, hb_10L, hb_10k, hb_10n, hb_10o⟩ := shp_a (W9 x hLx) hkx 15 14 72 rfl (by decide)
  obtain ⟨b_11, hb_11, hb_11L, hb_11k, hb_11n, hb_11o⟩ := shp_a (W9 x hLx) hkx 20 15 13 rfl (by decide)
  have enqx : ∀ I J, NRf R I J x = NRq I J x b_10 b_11 := fun I J => by simp only [NRf, rr_, Option.getD_some, hb_10, hb_11]
  have wnqx : nqw_ L κ ow x b_10 b_11 := ⟨⟨hLx, hb_10L, hb_11L⟩, ⟨(ro_o hkx (by decide)), (ro_a hb_10k (by decide) hb_10o hkx rfl), (ro_a hb_11k (by decide) hb_11o hkx rfl)⟩⟩
  obtain ⟨s_12, hs_12⟩ : ∃ z, NRq I J x b_10 b_11 = z := ⟨_, rfl⟩
  have eqqx : ∀ I J, QTf R I J x = QTq I J x := fun I J => by simp only [QTf, rr_, Option.getD_some]
  have wqqx : qqw_ L κ ow x := ⟨hLx, (ro_o hkx (by decide))⟩
  obtain ⟨s_13, hs_13⟩ : ∃ z, QTq I J x = z := ⟨_, rfl⟩
  refine g_lo (is := [0]) (lo2 := [(0, .ref x)]) rfl ?_
  have l_10 : ∀ (n_10 : Nat) (v_14 : Int32) (rv_14 : Rg 0 1 v_14) (v_15 : Int32) (rv_15 : Rg 18 28 v_15) (v_16 : Int32) (rv_16 : Rg 0 60 v_16) (v_17 : Int32) (rv_17 : Rg 0 20 v_17) (v_18 : Int32) (rv_18 : Rg 0 59 v_18) (v_19 : Int32) (rv_19 : Rg 0 4 v_19) (q_20 : I x 47 = v_16) (q_21 : I x 48 = v_17) (q_22 : I x 49 = 1) (q_23 : I x 50 = v_18) (q_24 : I x 7 = v_19) (hq_25 : mSd1 (mBrK 6 s_5 s_7) (mNtK 6 s_5 s_7) s_5 s_7 v_14 (mww v_15 s_9) s_9 s_12 s_13 = mSaid 7 s_5 s_7 s_9 s_12 s_13) (hj_26 : v_16.toInt = x_1.toInt ∧ v_17.toInt = x_2.toInt) (hm_27 : 28 < (v_15 : Int32).toInt + (n_10 : Int)), WG p l e { frames := 31, cells := 0, slots := 0, locals := 664 } s m ([.ref x] : List Value).toArray below meth c 4 0 0 (MQ below (Qi_ D cy L κ ln R (fun r I2 J2 => Iw L κ R ow I2 ∧ Fq L κ ow [1205, 1206, 1207, 1208, 1209, 1210, 1211, 1213, 1247, 1248, 1249, 1250, 86600] I I2 ∧ Fq L κ ow [1212] J J2 ∧ Rg 0 1 r ∧ ((r, MTf R I2 J2 x, NRf R I2 J2 x, QTf R I2 J2 x) = mSaid 7 (NVf R I J x) (NWf R I J x) (MTf R I J x) (NRf R I J x) (QTf R I J x)) ∧ (¬ r = 0 → Sz_ x I I2 1) ∧ (I2 x 49 = 1))) ([.ref x] : List Value).toArray s 0 0 (Al_ L)) D cy (Al_ L) s.heap L κ ln R I J 10 [(0, .ref x), (1, .int v_14), (2, .int v_15)] [] := by
    intro n_10
    induction n_10 with
    | zero =>
      intro v_14 rv_14 v_15 rv_15 v_16 rv_16 v_17 rv_17 v_18 rv_18 v_19 rv_19 q_20 q_21 q_22 q_23 q_24 hq_25 hj_26 hm_27
      exact ms_0 rv_15 hm_27
    | succ n_10 ih_10 =>
      intro v_14 rv_14 v_15 rv_15 v_16 rv_16 v_17 rv_17 v_18 rv_18 v_19 rv_19 q_20 q_21 q_22 q_23 q_24 hq_25 hj_26 hm_27
      have hQ_28 := hq_25.symm
      have u_29 := mww_eq (w := v_15) (m := s_9) (rg_w rv_15 (by decide) (by decide))
      refine g_iload_n C 2 dX12_readSaid_10 rfl rfl ?_
      refine g_bipush C (v := 27) dX12_readSaid_11 (by decide) ?_
      refine g_icmp_gt C (tgt := 30) dX12_readSaid_13 (by decide) (fun h_30 => ?_) (fun h_30 => ?_)
      · skip
        have r_31 := lt_r (lo := 28) (h_30) rc_27 rv_15 (by decide)
        refine g_iload_n C 1 dX12_readSaid_30 rfl rfl ?_
        refine g_if_ne C (tgt := 46) dX12_readSaid_31 (by decide) (fun h_32 => ?_) (fun h_32 => ?_)
        · skip
          have n_33 : ¬ v_14 = 0 := h_32
          have r_34 := ne_lo (lo := 1) n_33 rv_14 rc_0 rfl (by decide)
          refine g_aload_n C 0 dX12_readSaid_46 rfl rfl ?_
          have f_35 : s_13.om = v_17 := (congrArg QT_.om hs_13).symm.trans q_21
          refine g_getI C K hLx hkx f_12_395 (v := v_17) q_21 dX12_readSaid_47 ?_
          refine g_bipush C (v := 20) dX12_readSaid_50 (by decide) ?_
          refine g_icmp_eq C (tgt := 64) dX12_readSaid_52 (by decide) (fun h_36 => ?_) (fun h_36 => ?_)
          · skip
            have r_37 := (⟨(eq_rg (h_36) rc_20).1, (rv_17).2⟩ : Rg 20 20 v_17)
            refine g_aload_n C 0 dX12_readSaid_64 rfl rfl ?_
            refine g_iconst C (v := 4) dX12_readSaid_65 (by decide) ?_
            refine g_callVI C K (c_X12_bad W9 hLx hkx 4 (rg_w rc_4 (by decide) (by decide)) hU) hLx hkx (by decide) rfl v_12_146 rfl ⟨rfl, rfl⟩ ⟨Nat.le_of_ble_eq_true rfl, Nat.le_of_ble_eq_true rfl⟩ (Nat.le_of_ble_eq_true rfl) ⟨Nat.le_of_ble_eq_true rfl, Nat.le_of_ble_eq_true rfl⟩ dX12_readSaid_66 rfl (st := []) (fun x_38 I_39 J_40 h_41 => ?_)
            obtain ⟨hUI_39, hFI_39, hGJ_40, rx_38, fx_38⟩ := h_41
            have hF_42 := fq_tr hF hFI_39 (by decide)
            have hG_43 := fq_tr hG hGJ_40 (by decide)
            obtain ⟨s_45, hs_45⟩ : ∃ z, MTq I_39 J_40 x b_8 = z := ⟨_, rfl⟩
            obtain ⟨s_46, hs_46⟩ : ∃ z, NRq I_39 J_40 x b_10 b_11 = z := ⟨_, rfl⟩
            have c_44 : mBad (4) (s_9) (s_12) = (x_38, s_45, s_46) := by have q := fx_38; simp only [emqx, enqx, hs_9, hs_12, hs_45, hs_46] at q; exact q.symm
            have hs_47 : NVq I_39 J_40 x b_4 = s_5 := (vq_fq wvqx hFI_39 hGJ_40 (by decide) (by decide)).trans hs_5
            have hs_48 : NWq I_39 J_40 x b_6 = s_7 := (zq_fq wzqx hFI_39 hGJ_40 (by decide) (by decide)).trans hs_7
            have hs_49 : QTq I_39 J_40 x = s_13 := (qq_fq wqqx hFI_39 hGJ_40 (by decide) (by decide)).trans hs_13
            exact g_zret (ty := .boolean) (r := x_38) B K rfl (nar_z (rg_w rx_38 (by decide) (by decide))) ⟨hUI_39, hF_42, hG_43, rg_w rx_38 (by decide) (by decide), (by (try simp only [h_30, h_32, f_35, (eq_true h_36), c_44, if_true, if_false, mqM_tp, mqM_size, mqM_limit, mqM_to, mqM_frm, mqM_kind, mqM_number, mqM_sign, mqM_word, MT_.w_tp, MT_.w_size, MT_.w_limit, MT_.w_to, MT_.w_frm, MT_.w_kind, MT_.w_number, MT_.w_sign, MT_.w_word, nqM_rd, nqM_rn, nqM_taped, nqM_mfault, nqM_mplace, nqM_told, nqM_hl, nqM_hd, NR_.w_rd, NR_.w_rn, NR_.w_taped, NR_.w_mfault, NR_.w_mplace, NR_.w_told, NR_.w_hl, NR_.w_hd, qqM_om, QT_.w_om, vqM_nv, NV_.w_nv, zqM_nw, NW_.w_nw] at hQ_28); (try simp only [h_30, h_32, f_35, (eq_true h_36), c_44, if_true, if_false, mqM_tp, mqM_size, mqM_limit, mqM_to, mqM_frm, mqM_kind, mqM_number, mqM_sign, mqM_word, MT_.w_tp, MT_.w_size, MT_.w_limit, MT_.w_to, MT_.w_frm, MT_.w_kind, MT_.w_number, MT_.w_sign, MT_.w_word, nqM_rd, nqM_rn, nqM_taped, nqM_mfault, nqM_mplace, nqM_told, nqM_hl, nqM_hd, NR_.w_rd, NR_.w_rn, NR_.w_taped, NR_.w_mfault, NR_.w_mplace, NR_.w_told, NR_.w_hl, NR_.w_hd, qqM_om, QT_.w_om, vqM_nv, NV_.w_nv, zqM_nw, NW_.w_nw] at u_29); simp only [mSd0, mSd1, mSd2, mBadQ, evqx, hs_47, hs_5, ezqx, hs_48, hs_7, emqx, hs_45, hs_9, enqx, hs_46, hs_12, eqqx, hs_49, hs_13, hQ_28, u_29, h_30, h_32, f_35, (eq_true h_36), c_44, if_true, if_false, mqM_tp, mqM_size, mqM_limit, mqM_to, mqM_frm, mqM_kind, mqM_number, mqM_sign, mqM_word, MT_.w_tp, MT_.w_size, MT_.w_limit, MT_.w_to, MT_.w_frm, MT_.w_kind, MT_.w_number, MT_.w_sign, MT_.w_word, nqM_rd, nqM_rn, nqM_taped, nqM_mfault, nqM_mplace, nqM_told, nqM_hl, nqM_hd, NR_.w_rd, NR_.w_rn, NR_.w_taped, NR_.w_mfault, NR_.w_mplace, NR_.w_told, NR_.w_hl, NR_.w_hd, qqM_om, QT_.w_om, vqM_nv, NV_.w_nv, zqM_nw, NW_.w_nw]), (fun q => ne_no q rx_38 rc_0), (fq_at hFI_39 hLx hkx (by decide) (by decide) q_22)⟩ dX12_readSaid_69
          · skip
            have n_50 : ¬ v_17 = 20 := h_36
            have r_51 := ne_hi (hi := 19) n_50 rv_17 rc_20 rfl (by decide)
            refine g_aload_n C 0 dX12_readSaid_55 rfl rfl ?_
            refine g_getI C K hLx hkx f_12_398 (v := 1) q_22 dX12_readSaid_56 ?_
            refine g_bipush C (v := 8) dX12_readSaid_59 (by decide) ?_
            refine g_icmp_ne C (tgt := 70) dX12_readSaid_61 (by decide) (fun h_52 => ?_) (fun h_52 => ?_)
            · skip
              refine g_aload_n C 0 dX12_readSaid_70 rfl rfl ?_
              refine g_dup C dX12_readSaid_71 rfl ?_
              refine g_getI C K hLx hkx f_12_395 (v := v_17) q_21 dX12_readSaid_72 ?_
              refine g_iconst C (v := 1) dX12_readSaid_75 (by decide) ?_
              obtain ⟨x_53, hx_53, rx_53, tx_53⟩ := ex_add 1 20 r_51 rc_1 (by decide) (by decide) (by decide) (by decide)
              refine g_iadd C (v := x_53) dX12_readSaid_76 hx_53 ?_
              refine h_putI C K hLx hkx f_12_395 p_12_48 dX12_readSaid_77 (fun I_54 hI_54 => ?_)
              have hU_55 := iw_put W9 hU hI_54 (ro_o hkx (by decide)) (lo := 0) (hi := 20) (rfl) (rg_w rx_53 (by decide) (by decide)) rfl
              have hF_56 := fq_puto hF hI_54 hkx (by decide) (by decide)
              have hs_57 : NVq I_54 J x b_4 = s_5 := by rw [hI_54]; exact (vq_oI wvqx (ro_o hkx (by decide)) (by decide)).trans hs_5
              have hs_58 : NWq I_54 J x b_6 = s_7 := by rw [hI_54]; exact (zq_oI wzqx (ro_o hkx (by decide)) (by decide)).trans hs_7
              have hs_59 : MTq I_54 J x b_8 = s_9 := by rw [hI_54]; exact (mq_uIt wmqx (by decide)).trans hs_9
              have hs_60 : NRq I_54 J x b_10 b_11 = s_12 := by rw [hI_54]; exact (nq_uIt wnqx (by decide)).trans hs_12
              have hs_61 : QTq I_54 J x = (QT_.w_om s_13 (x_53)) := by rw [hI_54]; exact ((qq_om wqqx).trans (congrArg (fun z : QT_ => QT_.w_om z (x_53)) hs_13)).trans rfl
              refine g_aload_n C 0 dX12_readSaid_80 rfl rfl ?_
              refine g_dup C dX12_readSaid_81 rfl ?_
              refine g_getI C K hLx hkx f_12_398 (v := 1) (kp_j hI_54 (by decide) q_22) dX12_readSaid_82 ?_
              refine g_iconst C (v := 1) dX12_readSaid_85 (by decide) ?_
              refine g_iadd C (v := 2) dX12_readSaid_86 (by decide) ?_
              refine h_putI C K hLx hkx f_12_398 p_12_49 dX12_readSaid_87 (fun I_62 hI_62 => ?_)
              have hU_63 := iw_put W9 hU_55 hI_62 (ro_o hkx (by decide)) (lo := 0) (hi := 8) (rfl) (rg_w rc_2 (by decide) (by decide)) rfl
              have hF_64 := fq_puto hF_56 hI_62 hkx (by decide) (by decide)
              have hs_65 : NVq I_62 J x b_4 = s_5 := by rw [hI_62]; exact (vq_oI wvqx (ro_o hkx (by decide)) (by decide)).trans hs_57
              have hs_66 : NWq I_62 J x b_6 = s_7 := by rw [hI_62]; exact (zq_oI wzqx (ro_o hkx (by decide)) (by decide)).trans hs_58
              have hs_67 : MTq I_62 J x b_8 = s_9 := by rw [hI_62]; exact (mq_uIt wmqx (by decide)).trans hs_59
              have hs_68 : NRq I_62 J x b_10 b_11 = s_12 := by rw [hI_62]; exact (nq_uIt wnqx (by decide)).trans hs_60
              have hs_69 : QTq I_62 J x = (QT_.w_om s_13 (x_53)) := by rw [hI_62]; exact (qq_uIt wqqx (by decide)).trans hs_61
              refine g_aload_n C 0 dX12_readSaid_90 rfl rfl ?_
              refine g_callVV C K (c_X12_go W9 hLx hkx   hU_63) hLx hkx (by decide) rfl v_12_156 rfl ⟨rfl, rfl⟩ ⟨Nat.le_of_ble_eq_true rfl, Nat.le_of_ble_eq_true rfl⟩ (Nat.le_of_ble_eq_true rfl) ⟨Nat.le_of_ble_eq_true rfl, Nat.le_of_ble_eq_true rfl⟩ dX12_readSaid_91 rfl (st := []) (fun I_71 J_72 h_73 => ?_)
              obtain ⟨hUI_71, hFI_71, hGJ_72, fx_70, ex_70⟩ := h_73
              have hF_74 := fq_tr hF_64 hFI_71 (by decide)
              have hG_75 := fq_tr hG hGJ_72 (by decide)
              obtain ⟨s_77, hs_77⟩ : ∃ z, MTq I_71 J_72 x b_8 = z := ⟨_, rfl⟩
              have c_76 : mGo (s_9) = s_77 := by have q := fx_70; simp only [emqx, hs_67, hs_77] at q; exact q.symm
              have hs_78 : NVq I_71 J_72 x b_4 = s_5 := (vq_fq wvqx hFI_71 hGJ_72 (by decide) (by decide)).trans hs_65
              have hs_79 : NWq I_71 J_72 x b_6 = s_7 := (zq_fq wzqx hFI_71 hGJ_72 (by decide) (by decide)).trans hs_66
              have hs_80 : NRq I_71 J_72 x b_10 b_11 = s_12 := (nq_fq wnqx hFI_71 hGJ_72 (by decide) (by decide)).trans hs_68
              have hs_81 : QTq I_71 J_72 x = (QT_.w_om s_13 (x_53)) := (qq_fq wqqx hFI_71 hGJ_72 (by decide) (by decide)).trans hs_69
              refine g_iconst C (v := 1) dX12_readSaid_94 (by decide) ?_
              refine g_istore_n C dX12_readSaid_95 rfl (by decide) (lo2 := [(3, .int 1), (0, .ref x), (1, .int v_14), (2, .int v_15)]) rfl ?_
              refine g_iload_n C 2 dX12_readSaid_96 rfl rfl ?_
              refine g_if_eq C (tgt := 108) dX12_readSaid_97 (by decide) (fun h_82 => ?_) (fun h_82 => ?_)
              · skip
                exact eq_no (h_82) r_34 rc_0 (by decide)
              · skip
                have n_83 : ¬ v_14 = 0 := h_82
                refine g_aload_n C 1 dX12_readSaid_100 rfl rfl ?_
                refine g_callVI C K (c_X12_readBracket_2 W9 hLx hkx   hUI_71  (by rw [(fq_at hFI_71 hLx hkx (by decide) (by decide) (kp_j hI_62 (by decide) (kp_j hI_54 (by decide) q_20))), (fq_at hFI_71 hLx hkx (by decide) (by decide) (kp_j hI_62 (by decide) (kp_s hI_54)))]; have := (ti_k tx_53 rc_1); omega) ((fq_at hFI_71 hLx hkx (by decide) (by decide) (kp_s hI_62)))) hLx hkx (by decide) rfl v_12_401 rfl ⟨rfl, rfl⟩ ⟨Nat.le_of_ble_eq_true rfl, Nat.le_of_ble_eq_true rfl⟩ (Nat.le_of_ble_eq_true rfl) ⟨Nat.le_of_ble_eq_true rfl, Nat.le_of_ble_eq_true rfl⟩ dX12_readSaid_101 rfl (st := []) (fun x_84 I_85 J_86 h_87 => ?_)
                obtain ⟨hUI_85, hFI_85, hGJ_86, rx_84, fx_84, ex_84⟩ := h_87
                have hF_88 := fq_tr hF_74 hFI_85 (by decide)
                have hG_89 := fq_tr hG_75 hGJ_86 (by decide)
                obtain ⟨s_91, hs_91⟩ : ∃ z, MTq I_85 J_86 x b_8 = z := ⟨_, rfl⟩
                obtain ⟨s_92, hs_92⟩ : ∃ z, NRq I_85 J_86 x b_10 b_11 = z := ⟨_, rfl⟩
                obtain ⟨s_93, hs_93⟩ : ∃ z, QTq I_85 J_86 x = z := ⟨_, rfl⟩
                have c_90 : mBrK 6 (s_5) (s_7) (s_77) (s_12) ((QT_.w_om s_13 (x_53))) = (x_84, s_91, s_92, s_93) := by have q := fx_84; simp only [evqx, ezqx, emqx, enqx, eqqx, hs_78, hs_79, hs_77, hs_80, hs_81, hs_91, hs_92, hs_93] at q; exact q.symm
                have hs_94 : NVq I_85 J_86 x b_4 = s_5 := (vq_fq wvqx hFI_85 hGJ_86 (by decide) (by decide)).trans hs_78
                have hs_95 : NWq I_85 J_86 x b_6 = s_7 := (zq_fq wzqx hFI_85 hGJ_86 (by decide) (by decide)).trans hs_79
                obtain ⟨x_96, hx_96, rx_96⟩ := ex_getw (I := I_85) (a := x) (j := 47) (lo := 0) (hi := 60) hUI_85.1 hLx (ro_o hkx (by decide)) rfl
                obtain ⟨x_97, hx_97, rx_97⟩ := ex_getw (I := I_85) (a := x) (j := 50) (lo := 0) (hi := 59) hUI_85.1 hLx (ro_o hkx (by decide)) rfl
                obtain ⟨x_98, hx_98, rx_98⟩ := ex_getw (I := I_85) (a := x) (j := 48) (lo := 0) (hi := 20) hUI_85.1 hLx (ro_o hkx (by decide)) rfl
                have f_99 : s_93.om = x_98 := (congrArg QT_.om hs_93).symm.trans hx_98
                refine g_istore_n C dX12_readSaid_104 rfl (by decide) (lo2 := [(3, .int x_84), (0, .ref x), (1, .int v_14), (2, .int v_15)]) rfl ?_
                refine g_goto C (tgt := 166) dX12_readSaid_105 (by decide) ?_
                refine g_aload_n C 1 dX12_readSaid_166 rfl rfl ?_
                refine g_dup C dX12_readSaid_167 rfl ?_
                refine g_getI C K hLx hkx f_12_398 (v := 2) ex_84.2 dX12_readSaid_168 ?_
                refine g_iconst C (v := 1) dX12_readSaid_171 (by decide) ?_
                refine g_isub C (v := 1) dX12_readSaid_172 (by decide) ?_
                refine h_putI C K hLx hkx f_12_398 p_12_49 dX12_readSaid_173 (fun I_100 hI_100 => ?_)
                have hU_101 := iw_put W9 hUI_85 hI_100 (ro_o hkx (by decide)) (lo := 0) (hi := 8) (rfl) (rg_w rc_1 (by decide) (by decide)) rfl
                have hF_102 := fq_puto hF_88 hI_100 hkx (by decide) (by decide)
                have hs_103 : NVq I_100 J_86 x b_4 = s_5 := by rw [hI_100]; exact (vq_oI wvqx (ro_o hkx (by decide)) (by decide)).trans hs_94
                have hs_104 : NWq I_100 J_86 x b_6 = s_7 := by rw [hI_100]; exact (zq_oI wzqx (ro_o hkx (by decide)) (by decide)).trans hs_95
                have hs_105 : MTq I_100 J_86 x b_8 = s_91 := by rw [hI_100]; exact (mq_uIt wmqx (by decide)).trans hs_91
                have hs_106 : NRq I_100 J_86 x b_10 b_11 = s_92 := by rw [hI_100]; exact (nq_uIt wnqx (by decide)).trans hs_92
                have hs_107 : QTq I_100 J_86 x = s_93 := by rw [hI_100]; exact (qq_uIt wqqx (by decide)).trans hs_93
                refine g_iload_n C 0 dX12_readSaid_176 rfl rfl ?_
                exact g_zret (ty := .boolean) (r := x_84) B K rfl (nar_z (rx_84)) ⟨hU_101, hF_102, hG_89, rx_84, (by (try simp only [h_30, h_32, f_35, h_36, h_52, hx_53, c_76, h_82, hx_96, hx_97, hx_98, f_99, if_true, if_false, mqM_tp, mqM_size, mqM_limit, mqM_to, mqM_frm, mqM_kind, mqM_number, mqM_sign, mqM_word, MT_.w_tp, MT_.w_size, MT_.w_limit, MT_.w_to, MT_.w_frm, MT_.w_kind, MT_.w_number, MT_.w_sign, MT_.w_word, nqM_rd, nqM_rn, nqM_taped, nqM_mfault, nqM_mplace, nqM_told, nqM_hl, nqM_hd, NR_.w_rd, NR_.w_rn, NR_.w_taped, NR_.w_mfault, NR_.w_mplace, NR_.w_told, NR_.w_hl, NR_.w_hd, qqM_om, QT_.w_om, vqM_nv, NV_.w_nv, zqM_nw, NW_.w_nw] at hQ_28); (try simp only [h_30, h_32, f_35, h_36, h_52, hx_53, c_76, h_82, hx_96, hx_97, hx_98, f_99, if_true, if_false, mqM_tp, mqM_size, mqM_limit, mqM_to, mqM_frm, mqM_kind, mqM_number, mqM_sign, mqM_word, MT_.w_tp, MT_.w_size, MT_.w_limit, MT_.w_to, MT_.w_frm, MT_.w_kind, MT_.w_number, MT_.w_sign, MT_.w_word, nqM_rd, nqM_rn, nqM_taped, nqM_mfault, nqM_mplace, nqM_told, nqM_hl, nqM_hd, NR_.w_rd, NR_.w_rn, NR_.w_taped, NR_.w_mfault, NR_.w_mplace, NR_.w_told, NR_.w_hl, NR_.w_hd, qqM_om, QT_.w_om, vqM_nv, NV_.w_nv, zqM_nw, NW_.w_nw] at u_29); (try simp only [h_30, h_32, f_35, h_36, h_52, hx_53, c_76, h_82, hx_96, hx_97, hx_98, f_99, if_true, if_false, mqM_tp, mqM_size, mqM_limit, mqM_to, mqM_frm, mqM_kind, mqM_number, mqM_sign, mqM_word, MT_.w_tp, MT_.w_size, MT_.w_limit, MT_.w_to, MT_.w_frm, MT_.w_kind, MT_.w_number, MT_.w_sign, MT_.w_word, nqM_rd, nqM_rn, nqM_taped, nqM_mfault, nqM_mplace, nqM_told, nqM_hl, nqM_hd, NR_.w_rd, NR_.w_rn, NR_.w_taped, NR_.w_mfault, NR_.w_mplace, NR_.w_told, NR_.w_hl, NR_.w_hd, qqM_om, QT_.w_om, vqM_nv, NV_.w_nv, zqM_nw, NW_.w_nw] at c_90); simp only [mSd0, mSd1, mSd2, mBadQ, evqx, hs_103, hs_5, ezqx, hs_104, hs_7, emqx, hs_105, hs_9, enqx, hs_106, hs_12, eqqx, hs_107, hs_13, hQ_28, u_29, h_30, h_32, f_35, h_36, h_52, hx_53, c_76, h_82, c_90, hx_96, hx_97, hx_98, f_99, if_true, if_false, mqM_tp, mqM_size, mqM_limit, mqM_to, mqM_frm, mqM_kind, mqM_number, mqM_sign, mqM_word, MT_.w_tp, MT_.w_size, MT_.w_limit, MT_.w_to, MT_.w_frm, MT_.w_kind, MT_.w_number, MT_.w_sign, MT_.w_word, nqM_rd, nqM_rn, nqM_taped, nqM_mfault, nqM_mplace, nqM_told, nqM_hl, nqM_hd, NR_.w_rd, NR_.w_rn, NR_.w_taped, NR_.w_mfault, NR_.w_mplace, NR_.w_told, NR_.w_hl, NR_.w_hd, qqM_om, QT_.w_om, vqM_nv, NV_.w_nv, zqM_nw, NW_.w_nw]), (fun hq => by have n_108 : ¬ x_84 = 0 := hq; have r_109 := ne_lo (lo := 1) n_108 rx_84 rc_0 rfl (by decide); have f_110 := sz_v (fq_at hFI_71 hLx hkx (by decide) (by decide) (kp_j hI_62 (by decide) (kp_j hI_54 (by decide) q_20))) (fq_at hFI_71 hLx hkx (by decide) (by decide) (kp_j hI_62 (by decide) (kp_s hI_54))) hx_96 hx_98 hx_97 (ex_84.1 n_108); have f_111 := (ti_k tx_53 rc_1); exact (sz_m hx_1 hx_2 (kp_j hI_100 (by decide) hx_96) (kp_j hI_100 (by decide) hx_98) (kp_j hI_100 (by decide) hx_97) ⟨by omega, by omega, by omega, by omega⟩)), (kp_s hI_100)⟩ dX12_readSaid_177
            · skip
              exact absurd (h_52) (by decide)
        · skip
          have r_112 := (⟨(rv_14).1, (eq_rg (h_32) rc_0).2⟩ : Rg 0 0 v_14)
          refine g_iload_n C 2 dX12_readSaid_34 rfl rfl ?_
          refine g_bipush C (v := 27) dX12_readSaid_35 (by decide) ?_
          refine g_icmp_le C (tgt := 46) dX12_readSaid_37 (by decide) (fun h_113 => ?_) (fun h_113 => ?_)
          · skip
            have r_114 := le_l (h_113) r_31 rc_27
            exact rg_no r_114 (by decide)
          · skip
            refine g_aload_n C 0 dX12_readSaid_40 rfl rfl ?_
            refine g_iconst C (v := 1) dX12_readSaid_41 (by decide) ?_
            refine g_callVI C K (c_X12_bad W9 hLx hkx 1 (rg_w rc_1 (by decide) (by decide)) hU) hLx hkx (by decide) rfl v_12_146 rfl ⟨rfl, rfl⟩ ⟨Nat.le_of_ble_eq_true rfl, Nat.le_of_ble_eq_true rfl⟩ (Nat.le_of_ble_eq_true rfl) ⟨Nat.le_of_ble_eq_true rfl, Nat.le_of_ble_eq_true rfl⟩ dX12_readSaid_42 rfl (st := []) (fun x_115 I_116 J_117 h_118 => ?_)
            obtain ⟨hUI_116, hFI_116, hGJ_117, rx_115, fx_115⟩ := h_118
            have hF_119 := fq_tr hF hFI_116 (by decide)
            have hG_120 := fq_tr hG hGJ_117 (by decide)
            obtain ⟨s_122, hs_122⟩ : ∃ z, MTq I_116 J_117 x b_8 = z := ⟨_, rfl⟩
            obtain ⟨s_123, hs_123⟩ : ∃ z, NRq I_116 J_117 x b_10 b_11 = z := ⟨_, rfl⟩
            have c_121 : mBad (1) (s_9) (s_12) = (x_115, s_122, s_123) := by have q := fx_115; simp only [emqx, enqx, hs_9, hs_12, hs_122, hs_123] at q; exact q.symm
            have hs_124 : NVq I_116 J_117 x b_4 = s_5 := (vq_fq wvqx hFI_116 hGJ_117 (by decide) (by decide)).trans hs_5
            have hs_125 : NWq I_116 J_117 x b_6 = s_7 := (zq_fq wzqx hFI_116 hGJ_117 (by decide) (by decide)).trans hs_7
            have hs_126 : QTq I_116 J_117 x = s_13 := (qq_fq wqqx hFI_116 hGJ_117 (by decide) (by decide)).trans hs_13
            exact g_zret (ty := .boolean) (r := x_115) B K rfl (nar_z (rg_w rx_115 (by decide) (by decide))) ⟨hUI_116, hF_119, hG_120, rg_w rx_115 (by decide) (by decide), (by (try simp only [h_30, (eq_true h_32), h_113, (nle h_113), c_121, if_true, if_false, mqM_tp, mqM_size, mqM_limit, mqM_to, mqM_frm, mqM_kind, mqM_number, mqM_sign, mqM_word, MT_.w_tp, MT_.w_size, MT_.w_limit, MT_.w_to, MT_.w_frm, MT_.w_kind, MT_.w_number, MT_.w_sign, MT_.w_word, nqM_rd, nqM_rn, nqM_taped, nqM_mfault, nqM_mplace, nqM_told, nqM_hl, nqM_hd, NR_.w_rd, NR_.w_rn, NR_.w_taped, NR_.w_mfault, NR_.w_mplace, NR_.w_told, NR_.w_hl, NR_.w_hd, qqM_om, QT_.w_om, vqM_nv, NV_.w_nv, zqM_nw, NW_.w_nw] at hQ_28); (try simp only [h_30, (eq_true h_32), h_113, (nle h_113), c_121, if_true, if_false, mqM_tp, mqM_size, mqM_limit, mqM_to, mqM_frm, mqM_kind, mqM_number, mqM_sign, mqM_word, MT_.w_tp, MT_.w_size, MT_.w_limit, MT_.w_to, MT_.w_frm, MT_.w_kind, MT_.w_number, MT_.w_sign, MT_.w_word, nqM_rd, nqM_rn, nqM_taped, nqM_mfault, nqM_mplace, nqM_told, nqM_hl, nqM_hd, NR_.w_rd, NR_.w_rn, NR_.w_taped, NR_.w_mfault, NR_.w_mplace, NR_.w_told, NR_.w_hl, NR_.w_hd, qqM_om, QT_.w_om, vqM_nv, NV_.w_nv, zqM_nw, NW_.w_nw] at u_29); simp only [mSd0, mSd1, mSd2, mBadQ, evqx, hs_124, hs_5, ezqx, hs_125, hs_7, emqx, hs_122, hs_9, enqx, hs_123, hs_12, eqqx, hs_126, hs_13, hQ_28, u_29, h_30, (eq_true h_32), h_113, (nle h_113), c_121, if_true, if_false, mqM_tp, mqM_size, mqM_limit, mqM_to, mqM_frm, mqM_kind, mqM_number, mqM_sign, mqM_word, MT_.w_tp, MT_.w_size, MT_.w_limit, MT_.w_to, MT_.w_frm, MT_.w_kind, MT_.w_number, MT_.w_sign, MT_.w_word, nqM_rd, nqM_rn, nqM_taped, nqM_mfault, nqM_mplace, nqM_told, nqM_hl, nqM_hd, NR_.w_rd, NR_.w_rn, NR_.w_taped, NR_.w_mfault, NR_.w_mplace, NR_.w_told, NR_.w_hl, NR_.w_hd, qqM_om, QT_.w_om, vqM_nv, NV_.w_nv, zqM_nw, NW_.w_nw]), (fun q => ne_no q rx_115 rc_0), (fq_at hFI_116 hLx hkx (by decide) (by decide) q_22)⟩ dX12_readSaid_45
      · skip
        have r_127 := le_l (nlt h_30) rv_15 rc_27
        refine g_aload_n C 0 dX12_readSaid_16 rfl rfl ?_
        refine g_iload_n C 2 dX12_readSaid_17 rfl rfl ?_
        refine g_callVI C K (c_X12_isWord W9 hLx hkx v_15 (rg_w r_127 (by decide) (by decide)) hU) hLx hkx (by decide) rfl v_12_191 rfl ⟨rfl, rfl⟩ ⟨Nat.le_of_ble_eq_true rfl, Nat.le_of_ble_eq_true rfl⟩ (Nat.le_of_ble_eq_true rfl) ⟨Nat.le_of_ble_eq_true rfl, Nat.le_of_ble_eq_true rfl⟩ dX12_readSaid_18 rfl (st := []) (fun x_128 I_129 J_130 h_131 => ?_)
        obtain ⟨rfl, rfl, rx_128, fx_128⟩ := h_131
        have c_132 : mIsWord (v_15) (s_9) = x_128 := by have q := fx_128; simp only [emqx, hs_9] at q; exact q.symm
        refine g_if_ne C (tgt := 30) dX12_readSaid_21 (by decide) (fun h_133 => ?_) (fun h_133 => ?_)
        · skip
          have n_134 : ¬ x_128 = 0 := h_133
          have r_135 := ne_lo (lo := 1) n_134 rx_128 rc_0 rfl (by decide)
          refine g_iload_n C 1 dX12_readSaid_30 rfl rfl ?_
          refine g_if_ne C (tgt := 46) dX12_readSaid_31 (by decide) (fun h_136 => ?_) (fun h_136 => ?_)
          · skip
            have n_137 : ¬ v_14 = 0 := h_136
            have r_138 := ne_lo (lo := 1) n_137 rv_14 rc_0 rfl (by decide)
            refine g_aload_n C 0 dX12_readSaid_46 rfl rfl ?_
            have f_139 : s_13.om = v_17 := (congrArg QT_.om hs_13).symm.trans q_21
            refine g_getI C K hLx hkx f_12_395 (v := v_17) q_21 dX12_readSaid_47 ?_
            refine g_bipush C (v := 20) dX12_readSaid_50 (by decide) ?_
            refine g_icmp_eq C (tgt := 64) dX12_readSaid_52 (by decide) (fun h_140 => ?_) (fun h_140 => ?_)
            · skip
              have r_141 := (⟨(eq_rg (h_140) rc_20).1, (rv_17).2⟩ : Rg 20 20 v_17)
              refine g_aload_n C 0 dX12_readSaid_64 rfl rfl ?_
              refine g_iconst C (v := 4) dX12_readSaid_65 (by decide) ?_
              refine g_callVI C K (c_X12_bad W9 hLx hkx 4 (rg_w rc_4 (by decide) (by decide)) hU) hLx hkx (by decide) rfl v_12_146 rfl ⟨rfl, rfl⟩ ⟨Nat.le_of_ble_eq_true rfl, Nat.le_of_ble_eq_true rfl⟩ (Nat.le_of_ble_eq_true rfl) ⟨Nat.le_of_ble_eq_true rfl, Nat.le_of_ble_eq_true rfl⟩ dX12_readSaid_66 rfl (st := []) (fun x_142 I_143 J_144 h_145 => ?_)
              obtain ⟨hUI_143, hFI_143, hGJ_144, rx_142, fx_142⟩ := h_145
              have hF_146 := fq_tr hF hFI_143 (by decide)
              have hG_147 := fq_tr hG hGJ_144 (by decide)
              obtain ⟨s_149, hs_149⟩ : ∃ z, MTq I_143 J_144 x b_8 = z := ⟨_, rfl⟩
              obtain ⟨s_150, hs_150⟩ : ∃ z, NRq I_143 J_144 x b_10 b_11 = z := ⟨_, rfl⟩
              have c_148 : mBad (4) (s_9) (s_12) = (x_142, s_149, s_150) := by have q := fx_142; simp only [emqx, enqx, hs_9, hs_12, hs_149, hs_150] at q; exact q.symm
              have hs_151 : NVq I_143 J_144 x b_4 = s_5 := (vq_fq wvqx hFI_143 hGJ_144 (by decide) (by decide)).trans hs_5
              have hs_152 : NWq I_143 J_144 x b_6 = s_7 := (zq_fq wzqx hFI_143 hGJ_144 (by decide) (by decide)).trans hs_7
              have hs_153 : QTq I_143 J_144 x = s_13 := (qq_fq wqqx hFI_143 hGJ_144 (by decide) (by decide)).trans hs_13
              exact g_zret (ty := .boolean) (r := x_142) B K rfl (nar_z (rg_w rx_142 (by decide) (by decide))) ⟨hUI_143, hF_146, hG_147, rg_w rx_142 (by decide) (by decide), (by (try simp only [h_30, (nlt h_30), c_132, h_133, h_136, f_139, (eq_true h_140), c_148, if_true, if_false, mqM_tp, mqM_size, mqM_limit, mqM_to, mqM_frm, mqM_kind, mqM_number, mqM_sign, mqM_word, MT_.w_tp, MT_.w_size, MT_.w_limit, MT_.w_to, MT_.w_frm, MT_.w_kind, MT_.w_number, MT_.w_sign, MT_.w_word, nqM_rd, nqM_rn, nqM_taped, nqM_mfault, nqM_mplace, nqM_told, nqM_hl, nqM_hd, NR_.w_rd, NR_.w_rn, NR_.w_taped, NR_.w_mfault, NR_.w_mplace, NR_.w_told, NR_.w_hl, NR_.w_hd, qqM_om, QT_.w_om, vqM_nv, NV_.w_nv, zqM_nw, NW_.w_nw] at hQ_28); (try simp only [h_30, (nlt h_30), c_132, h_133, h_136, f_139, (eq_true h_140), c_148, if_true, if_false, mqM_tp, mqM_size, mqM_limit, mqM_to, mqM_frm, mqM_kind, mqM_number, mqM_sign, mqM_word, MT_.w_tp, MT_.w_size, MT_.w_limit, MT_.w_to, MT_.w_frm, MT_.w_kind, MT_.w_number, MT_.w_sign, MT_.w_word, nqM_rd, nqM_rn, nqM_taped, nqM_mfault, nqM_mplace, nqM_told, nqM_hl, nqM_hd, NR_.w_rd, NR_.w_rn, NR_.w_taped, NR_.w_mfault, NR_.w_mplace, NR_.w_told, NR_.w_hl, NR_.w_hd, qqM_om, QT_.w_om, vqM_nv, NV_.w_nv, zqM_nw, NW_.w_nw] at u_29); simp only [mSd0, mSd1, mSd2, mBadQ, evqx, hs_151, hs_5, ezqx, hs_152, hs_7, emqx, hs_149, hs_9, enqx, hs_150, hs_12, eqqx, hs_153, hs_13, hQ_28, u_29, h_30, (nlt h_30), c_132, h_133, h_136, f_139, (eq_true h_140), c_148, if_true, if_false, mqM_tp, mqM_size, mqM_limit, mqM_to, mqM_frm, mqM_kind, mqM_number, mqM_sign, mqM_word, MT_.w_tp, MT_.w_size, MT_.w_limit, MT_.w_to, MT_.w_frm, MT_.w_kind, MT_.w_number, MT_.w_sign, MT_.w_word, nqM_rd, nqM_rn, nqM_taped, nqM_mfault, nqM_mplace, nqM_told, nqM_hl, nqM_hd, NR_.w_rd, NR_.w_rn, NR_.w_taped, NR_.w_mfault, NR_.w_mplace, NR_.w_told, NR_.w_hl, NR_.w_hd, qqM_om, QT_.w_om, vqM_nv, NV_.w_nv, zqM_nw, NW_.w_nw]), (fun q => ne_no q rx_142 rc_0), (fq_at hFI_143 hLx hkx (by decide) (by decide) q_22)⟩ dX12_readSaid_69
            · skip
              have n_154 : ¬ v_17 = 20 := h_140
              have r_155 := ne_hi (hi := 19) n_154 rv_17 rc_20 rfl (by decide)
              refine g_aload_n C 0 dX12_readSaid_55 rfl rfl ?_
              refine g_getI C K hLx hkx f_12_398 (v := 1) q_22 dX12_readSaid_56 ?_
              refine g_bipush C (v := 8) dX12_readSaid_59 (by decide) ?_
              refine g_icmp_ne C (tgt := 70) dX12_readSaid_61 (by decide) (fun h_156 => ?_) (fun h_156 => ?_)
              · skip
                refine g_aload_n C 0 dX12_readSaid_70 rfl rfl ?_
                refine g_dup C dX12_readSaid_71 rfl ?_
                refine g_getI C K hLx hkx f_12_395 (v := v_17) q_21 dX12_readSaid_72 ?_
                refine g_iconst C (v := 1) dX12_readSaid_75 (by decide) ?_
                obtain ⟨x_157, hx_157, rx_157, tx_157⟩ := ex_add 1 20 r_155 rc_1 (by decide) (by decide) (by decide) (by decide)
                refine g_iadd C (v := x_157) dX12_readSaid_76 hx_157 ?_
                refine h_putI C K hLx hkx f_12_395 p_12_48 dX12_readSaid_77 (fun I_158 hI_158 => ?_)
                have hU_159 := iw_put W9 hU hI_158 (ro_o hkx (by decide)) (lo := 0) (hi := 20) (rfl) (rg_w rx_157 (by decide) (by decide)) rfl
                have hF_160 := fq_puto hF hI_158 hkx (by decide) (by decide)
                have hs_161 : NVq I_158 J x b_4 = s_5 := by rw [hI_158]; exact (vq_oI wvqx (ro_o hkx (by decide)) (by decide)).trans hs_5
                have hs_162 : NWq I_158 J x b_6 = s_7 := by rw [hI_158]; exact (zq_oI wzqx (ro_o hkx (by decide)) (by decide)).trans hs_7
                have hs_163 : MTq I_158 J x b_8 = s_9 := by rw [hI_158]; exact (mq_uIt wmqx (by decide)).trans hs_9
                have hs_164 : NRq I_158 J x b_10 b_11 = s_12 := by rw [hI_158]; exact (nq_uIt wnqx (by decide)).trans hs_12
                have hs_165 : QTq I_158 J x = (QT_.w_om s_13 (x_157)) := by rw [hI_158]; exact ((qq_om wqqx).trans (congrArg (fun z : QT_ => QT_.w_om z (x_157)) hs_13)).trans rfl
                refine g_aload_n C 0 dX12_readSaid_80 rfl rfl ?_
                refine g_dup C dX12_readSaid_81 rfl ?_
                refine g_getI C K hLx hkx f_12_398 (v := 1) (kp_j hI_158 (by decide) q_22) dX12_readSaid_82 ?_
                refine g_iconst C (v := 1) dX12_readSaid_85 (by decide) ?_
                refine g_iadd C (v := 2) dX12_readSaid_86 (by decide) ?_
                refine h_putI C K hLx hkx f_12_398 p_12_49 dX12_readSaid_87 (fun I_166 hI_166 => ?_)
                have hU_167 := iw_put W9 hU_159 hI_166 (ro_o hkx (by decide)) (lo := 0) (hi := 8) (rfl) (rg_w rc_2 (by decide) (by decide)) rfl
                have hF_168 := fq_puto hF_160 hI_166 hkx (by decide) (by decide)
                have hs_169 : NVq I_166 J x b_4 = s_5 := by rw [hI_166]; exact (vq_oI wvqx (ro_o hkx (by decide)) (by decide)).trans hs_161
                have hs_170 : NWq I_166 J x b_6 = s_7 := by rw [hI_166]; exact (zq_oI wzqx (ro_o hkx (by decide)) (by decide)).trans hs_162
                have hs_171 : MTq I_166 J x b_8 = s_9 := by rw [hI_166]; exact (mq_uIt wmqx (by decide)).trans hs_163
                have hs_172 : NRq I_166 J x b_10 b_11 = s_12 := by rw [hI_166]; exact (nq_uIt wnqx (by decide)).trans hs_164
                have hs_173 : QTq I_166 J x = (QT_.w_om s_13 (x_157)) := by rw [hI_166]; exact (qq_uIt wqqx (by decide)).trans hs_165
                refine g_aload_n C 0 dX12_readSaid_90 rfl rfl ?_
                refine g_callVV C K (c_X12_go W9 hLx hkx   hU_167) hLx hkx (by decide) rfl v_12_156 rfl ⟨rfl, rfl⟩ ⟨Nat.le_of_ble_eq_true rfl, Nat.le_of_ble_eq_true rfl⟩ (Nat.le_of_ble_eq_true rfl) ⟨Nat.le_of_ble_eq_true rfl, Nat.le_of_ble_eq_true rfl⟩ dX12_readSaid_91 rfl (st := []) (fun I_175 J_176 h_177 => ?_)
                obtain ⟨hUI_175, hFI_175, hGJ_176, fx_174, ex_174⟩ := h_177
                have hF_178 := fq_tr hF_168 hFI_175 (by decide)
                have hG_179 := fq_tr hG hGJ_176 (by decide)
                obtain ⟨s_181, hs_181⟩ : ∃ z, MTq I_175 J_176 x b_8 = z := ⟨_, rfl⟩
                have c_180 : mGo (s_9) = s_181 := by have q := fx_174; simp only [emqx, hs_171, hs_181] at q; exact q.symm
                have hs_182 : NVq I_175 J_176 x b_4 = s_5 := (vq_fq wvqx hFI_175 hGJ_176 (by decide) (by decide)).trans hs_169
                have hs_183 : NWq I_175 J_176 x b_6 = s_7 := (zq_fq wzqx hFI_175 hGJ_176 (by decide) (by decide)).trans hs_170
                have hs_184 : NRq I_175 J_176 x b_10 b_11 = s_12 := (nq_fq wnqx hFI_175 hGJ_176 (by decide) (by decide)).trans hs_172
                have hs_185 : QTq I_175 J_176 x = (QT_.w_om s_13 (x_157)) := (qq_fq wqqx hFI_175 hGJ_176 (by decide) (by decide)).trans hs_173
                refine g_iconst C (v := 1) dX12_readSaid_94 (by decide) ?_
                refine g_istore_n C dX12_readSaid_95 rfl (by decide) (lo2 := [(3, .int 1), (0, .ref x), (1, .int v_14), (2, .int v_15)]) rfl ?_
                refine g_iload_n C 2 dX12_readSaid_96 rfl rfl ?_
                refine g_if_eq C (tgt := 108) dX12_readSaid_97 (by decide) (fun h_186 => ?_) (fun h_186 => ?_)
                · skip
                  exact eq_no (h_186) r_138 rc_0 (by decide)
                · skip
                  have n_187 : ¬ v_14 = 0 := h_186
                  refine g_aload_n C 1 dX12_readSaid_100 rfl rfl ?_
                  refine g_callVI C K (c_X12_readBracket_2 W9 hLx hkx   hUI_175  (by rw [(fq_at hFI_175 hLx hkx (by decide) (by decide) (kp_j hI_166 (by decide) (kp_j hI_158 (by decide) q_20))), (fq_at hFI_175 hLx hkx (by decide) (by decide) (kp_j hI_166 (by decide) (kp_s hI_158)))]; have := (ti_k tx_157 rc_1); omega) ((fq_at hFI_175 hLx hkx (by decide) (by decide) (kp_s hI_166)))) hLx hkx (by decide) rfl v_12_401 rfl ⟨rfl, rfl⟩ ⟨Nat.le_of_ble_eq_true rfl, Nat.le_of_ble_eq_true rfl⟩ (Nat.le_of_ble_eq_true rfl) ⟨Nat.le_of_ble_eq_true rfl, Nat.le_of_ble_eq_true rfl⟩ dX12_readSaid_101 rfl (st := []) (fun x_188 I_189 J_190 h_191 => ?_)
                  obtain ⟨hUI_189, hFI_189, hGJ_190, rx_188, fx_188, ex_188⟩ := h_191
                  have hF_192 := fq_tr hF_178 hFI_189 (by decide)
                  have hG_193 := fq_tr hG_179 hGJ_190 (by decide)
                  obtain ⟨s_195, hs_195⟩ : ∃ z, MTq I_189 J_190 x b_8 = z := ⟨_, rfl⟩
                  obtain ⟨s_196, hs_196⟩ : ∃ z, NRq I_189 J_190 x b_10 b_11 = z := ⟨_, rfl⟩
                  obtain ⟨s_197, hs_197⟩ : ∃ z, QTq I_189 J_190 x = z := ⟨_, rfl⟩
                  have c_194 : mBrK 6 (s_5) (s_7) (s_181) (s_12) ((QT_.w_om s_13 (x_157))) = (x_188, s_195, s_196, s_197) := by have q := fx_188; simp only [evqx, ezqx, emqx, enqx, eqqx, hs_182, hs_183, hs_181, hs_184, hs_185, hs_195, hs_196, hs_197] at q; exact q.symm
                  have hs_198 : NVq I_189 J_190 x b_4 = s_5 := (vq_fq wvqx hFI_189 hGJ_190 (by decide) (by decide)).trans hs_182
                  have hs_199 : NWq I_189 J_190 x b_6 = s_7 := (zq_fq wzqx hFI_189 hGJ_190 (by decide) (by decide)).trans hs_183
                  obtain ⟨x_200, hx_200, rx_200⟩ := ex_getw (I := I_189) (a := x) (j := 47) (lo := 0) (hi := 60) hUI_189.1 hLx (ro_o hkx (by decide)) rfl
                  obtain ⟨x_201, hx_201, rx_201⟩ := ex_getw (I := I_189) (a := x) (j := 50) (lo := 0) (hi := 59) hUI_189.1 hLx (ro_o hkx (by decide)) rfl
                  obtain ⟨x_202, hx_202, rx_202⟩ := ex_getw (I := I_189) (a := x) (j := 48) (lo := 0) (hi := 20) hUI_189.1 hLx (ro_o hkx (by decide)) rfl
                  have f_203 : s_197.om = x_202 := (congrArg QT_.om hs_197).symm.trans hx_202
                  refine g_istore_n C dX12_readSaid_104 rfl (by decide) (lo2 := [(3, .int x_188), (0, .ref x), (1, .int v_14), (2, .int v_15)]) rfl ?_
                  refine g_goto C (tgt := 166) dX12_readSaid_105 (by decide) ?_
                  refine g_aload_n C 1 dX12_readSaid_166 rfl rfl ?_
                  refine g_dup C dX12_readSaid_167 rfl ?_
                  refine g_getI C K hLx hkx f_12_398 (v := 2) ex_188.2 dX12_readSaid_168 ?_
                  refine g_iconst C (v := 1) dX12_readSaid_171 (by decide) ?_
                  refine g_isub C (v := 1) dX12_readSaid_172 (by decide) ?_
                  refine h_putI C K hLx hkx f_12_398 p_12_49 dX12_readSaid_173 (fun I_204 hI_204 => ?_)
                  have hU_205 := iw_put W9 hUI_189 hI_204 (ro_o hkx (by decide)) (lo := 0) (hi := 8) (rfl) (rg_w rc_1 (by decide) (by decide)) rfl
                  have hF_206 := fq_puto hF_192 hI_204 hkx (by decide) (by decide)
                  have hs_207 : NVq I_204 J_190 x b_4 = s_5 := by rw [hI_204]; exact (vq_oI wvqx (ro_o hkx (by decide)) (by decide)).trans hs_198
                  have hs_208 : NWq I_204 J_190 x b_6 = s_7 := by rw [hI_204]; exact (zq_oI wzqx (ro_o hkx (by decide)) (by decide)).trans hs_199
                  have hs_209 : MTq I_204 J_190 x b_8 = s_195 := by rw [hI_204]; exact (mq_uIt wmqx (by decide)).trans hs_195
                  have hs_210 : NRq I_204 J_190 x b_10 b_11 = s_196 := by rw [hI_204]; exact (nq_uIt wnqx (by decide)).trans hs_196
                  have hs_211 : QTq I_204 J_190 x = s_197 := by rw [hI_204]; exact (qq_uIt wqqx (by decide)).trans hs_197
                  refine g_iload_n C 0 dX12_readSaid_176 rfl rfl ?_
                  exact g_zret (ty := .boolean) (r := x_188) B K rfl (nar_z (rx_188)) ⟨hU_205, hF_206, hG_193, rx_188, (by (try simp only [h_30, (nlt h_30), c_132, h_133, h_136, f_139, h_140, h_156, hx_157, c_180, h_186, hx_200, hx_201, hx_202, f_203, if_true, if_false, mqM_tp, mqM_size, mqM_limit, mqM_to, mqM_frm, mqM_kind, mqM_number, mqM_sign, mqM_word, MT_.w_tp, MT_.w_size, MT_.w_limit, MT_.w_to, MT_.w_frm, MT_.w_kind, MT_.w_number, MT_.w_sign, MT_.w_word, nqM_rd, nqM_rn, nqM_taped, nqM_mfault, nqM_mplace, nqM_told, nqM_hl, nqM_hd, NR_.w_rd, NR_.w_rn, NR_.w_taped, NR_.w_mfault, NR_.w_mplace, NR_.w_told, NR_.w_hl, NR_.w_hd, qqM_om, QT_.w_om, vqM_nv, NV_.w_nv, zqM_nw, NW_.w_nw] at hQ_28); (try simp only [h_30, (nlt h_30), c_132, h_133, h_136, f_139, h_140, h_156, hx_157, c_180, h_186, hx_200, hx_201, hx_202, f_203, if_true, if_false, mqM_tp, mqM_size, mqM_limit, mqM_to, mqM_frm, mqM_kind, mqM_number, mqM_sign, mqM_word, MT_.w_tp, MT_.w_size, MT_.w_limit, MT_.w_to, MT_.w_frm, MT_.w_kind, MT_.w_number, MT_.w_sign, MT_.w_word, nqM_rd, nqM_rn, nqM_taped, nqM_mfault, nqM_mplace, nqM_told, nqM_hl, nqM_hd, NR_.w_rd, NR_.w_rn, NR_.w_taped, NR_.w_mfault, NR_.w_mplace, NR_.w_told, NR_.w_hl, NR_.w_hd, qqM_om, QT_.w_om, vqM_nv, NV_.w_nv, zqM_nw, NW_.w_nw] at u_29); (try simp only [h_30, (nlt h_30), c_132, h_133, h_136, f_139, h_140, h_156, hx_157, c_180, h_186, hx_200, hx_201, hx_202, f_203, if_true, if_false, mqM_tp, mqM_size, mqM_limit, mqM_to, mqM_frm, mqM_kind, mqM_number, mqM_sign, mqM_word, MT_.w_tp, MT_.w_size, MT_.w_limit, MT_.w_to, MT_.w_frm, MT_.w_kind, MT_.w_number, MT_.w_sign, MT_.w_word, nqM_rd, nqM_rn, nqM_taped, nqM_mfault, nqM_mplace, nqM_told, nqM_hl, nqM_hd, NR_.w_rd, NR_.w_rn, NR_.w_taped, NR_.w_mfault, NR_.w_mplace, NR_.w_told, NR_.w_hl, NR_.w_hd, qqM_om, QT_.w_om, vqM_nv, NV_.w_nv, zqM_nw, NW_.w_nw] at c_194); simp only [mSd0, mSd1, mSd2, mBadQ, evqx, hs_207, hs_5, ezqx, hs_208, hs_7, emqx, hs_209, hs_9, enqx, hs_210, hs_12, eqqx, hs_211, hs_13, hQ_28, u_29, h_30, (nlt h_30), c_132, h_133, h_136, f_139, h_140, h_156, hx_157, c_180, h_186, c_194, hx_200, hx_201, hx_202, f_203, if_true, if_false, mqM_tp, mqM_size, mqM_limit, mqM_to, mqM_frm, mqM_kind, mqM_number, mqM_sign, mqM_word, MT_.w_tp, MT_.w_size, MT_.w_limit, MT_.w_to, MT_.w_frm, MT_.w_kind, MT_.w_number, MT_.w_sign, MT_.w_word, nqM_rd, nqM_rn, nqM_taped, nqM_mfault, nqM_mplace, nqM_told, nqM_hl, nqM_hd, NR_.w_rd, NR_.w_rn, NR_.w_taped, NR_.w_mfault, NR_.w_mplace, NR_.w_told, NR_.w_hl, NR_.w_hd, qqM_om, QT_.w_om, vqM_nv, NV_.w_nv, zqM_nw, NW_.w_nw]), (fun hq => by have n_212 : ¬ x_188 = 0 := hq; have r_213 := ne_lo (lo := 1) n_212 rx_188 rc_0 rfl (by decide); have f_214 := sz_v (fq_at hFI_175 hLx hkx (by decide) (by decide) (kp_j hI_166 (by decide) (kp_j hI_158 (by decide) q_20))) (fq_at hFI_175 hLx hkx (by decide) (by decide) (kp_j hI_166 (by decide) (kp_s hI_158))) hx_200 hx_202 hx_201 (ex_188.1 n_212); have f_215 := (ti_k tx_157 rc_1); exact (sz_m hx_1 hx_2 (kp_j hI_204 (by decide) hx_200) (kp_j hI_204 (by decide) hx_202) (kp_j hI_204 (by decide) hx_201) ⟨by omega, by omega, by omega, by omega⟩)), (kp_s hI_204)⟩ dX12_readSaid_177
              · skip
                exact absurd (h_156) (by decide)
          · skip
            have r_216 := (⟨(rv_14).1, (eq_rg (h_136) rc_0).2⟩ : Rg 0 0 v_14)
            refine g_iload_n C 2 dX12_readSaid_34 rfl rfl ?_
            refine g_bipush C (v := 27) dX12_readSaid_35 (by decide) ?_
            refine g_icmp_le C (tgt := 46) dX12_readSaid_37 (by decide) (fun h_217 => ?_) (fun h_217 => ?_)
            · skip
              refine g_aload_n C 0 dX12_readSaid_46 rfl rfl ?_
              have f_218 : s_13.om = v_17 := (congrArg QT_.om hs_13).symm.trans q_21
              refine g_getI C K hLx hkx f_12_395 (v := v_17) q_21 dX12_readSaid_47 ?_
              refine g_bipush C (v := 20) dX12_readSaid_50 (by decide) ?_
              refine g_icmp_eq C (tgt := 64) dX12_readSaid_52 (by decide) (fun h_219 => ?_) (fun h_219 => ?_)
              · skip
                have r_220 := (⟨(eq_rg (h_219) rc_20).1, (rv_17).2⟩ : Rg 20 20 v_17)
                refine g_aload_n C 0 dX12_readSaid_64 rfl rfl ?_
                refine g_iconst C (v := 4) dX12_readSaid_65 (by decide) ?_
                refine g_callVI C K (c_X12_bad W9 hLx hkx 4 (rg_w rc_4 (by decide) (by decide)) hU) hLx hkx (by decide) rfl v_12_146 rfl ⟨rfl, rfl⟩ ⟨Nat.le_of_ble_eq_true rfl, Nat.le_of_ble_eq_true rfl⟩ (Nat.le_of_ble_eq_true rfl) ⟨Nat.le_of_ble_eq_true rfl, Nat.le_of_ble_eq_true rfl⟩ dX12_readSaid_66 rfl (st := []) (fun x_221 I_222 J_223 h_224 => ?_)
                obtain ⟨hUI_222, hFI_222, hGJ_223, rx_221, fx_221⟩ := h_224
                have hF_225 := fq_tr hF hFI_222 (by decide)
                have hG_226 := fq_tr hG hGJ_223 (by decide)
                obtain ⟨s_228, hs_228⟩ : ∃ z, MTq I_222 J_223 x b_8 = z := ⟨_, rfl⟩
                obtain ⟨s_229, hs_229⟩ : ∃ z, NRq I_222 J_223 x b_10 b_11 = z := ⟨_, rfl⟩
                have c_227 : mBad (4) (s_9) (s_12) = (x_221, s_228, s_229) := by have q := fx_221; simp only [emqx, enqx, hs_9, hs_12, hs_228, hs_229] at q; exact q.symm
                have hs_230 : NVq I_222 J_223 x b_4 = s_5 := (vq_fq wvqx hFI_222 hGJ_223 (by decide) (by decide)).trans hs_5
                have hs_231 : NWq I_222 J_223 x b_6 = s_7 := (zq_fq wzqx hFI_222 hGJ_223 (by decide) (by decide)).trans hs_7
                have hs_232 : QTq I_222 J_223 x = s_13 := (qq_fq wqqx hFI_222 hGJ_223 (by decide) (by decide)).trans hs_13
                exact g_zret (ty := .boolean) (r := x_221) B K rfl (nar_z (rg_w rx_221 (by decide) (by decide))) ⟨hUI_222, hF_225, hG_226, rg_w rx_221 (by decide) (by decide), (by (try simp only [h_30, (nlt h_30), c_132, h_133, (eq_true h_136), h_217, f_218, (eq_true h_219), c_227, if_true, if_false, mqM_tp, mqM_size, mqM_limit, mqM_to, mqM_frm, mqM_kind, mqM_number, mqM_sign, mqM_word, MT_.w_tp, MT_.w_size, MT_.w_limit, MT_.w_to, MT_.w_frm, MT_.w_kind, MT_.w_number, MT_.w_sign, MT_.w_word, nqM_rd, nqM_rn, nqM_taped, nqM_mfault, nqM_mplace, nqM_told, nqM_hl, nqM_hd, NR_.w_rd, NR_.w_rn, NR_.w_taped, NR_.w_mfault, NR_.w_mplace, NR_.w_told, NR_.w_hl, NR_.w_hd, qqM_om, QT_.w_om, vqM_nv, NV_.w_nv, zqM_nw, NW_.w_nw] at hQ_28); (try simp only [h_30, (nlt h_30), c_132, h_133, (eq_true h_136), h_217, f_218, (eq_true h_219), c_227, if_true, if_false, mqM_tp, mqM_size, mqM_limit, mqM_to, mqM_frm, mqM_kind, mqM_number, mqM_sign, mqM_word, MT_.w_tp, MT_.w_size, MT_.w_limit, MT_.w_to, MT_.w_frm, MT_.w_kind, MT_.w_number, MT_.w_sign, MT_.w_word, nqM_rd, nqM_rn, nqM_taped, nqM_mfault, nqM_mplace, nqM_told, nqM_hl, nqM_hd, NR_.w_rd, NR_.w_rn, NR_.w_taped, NR_.w_mfault, NR_.w_mplace, NR_.w_told, NR_.w_hl, NR_.w_hd, qqM_om, QT_.w_om, vqM_nv, NV_.w_nv, zqM_nw, NW_.w_nw] at u_29); simp only [mSd0, mSd1, mSd2, mBadQ, evqx, hs_230, hs_5, ezqx, hs_231, hs_7, emqx, hs_228, hs_9, enqx, hs_229, hs_12, eqqx, hs_232, hs_13, hQ_28, u_29, h_30, (nlt h_30), c_132, h_133, (eq_true h_136), h_217, f_218, (eq_true h_219), c_227, if_true, if_false, mqM_tp, mqM_size, mqM_limit, mqM_to, mqM_frm, mqM_kind, mqM_number, mqM_sign, mqM_word, MT_.w_tp, MT_.w_size, MT_.w_limit, MT_.w_to, MT_.w_frm, MT_.w_kind, MT_.w_number, MT_.w_sign, MT_.w_word, nqM_rd, nqM_rn, nqM_taped, nqM_mfault, nqM_mplace, nqM_told, nqM_hl, nqM_hd, NR_.w_rd, NR_.w_rn, NR_.w_taped, NR_.w_mfault, NR_.w_mplace, NR_.w_told, NR_.w_hl, NR_.w_hd, qqM_om, QT_.w_om, vqM_nv, NV_.w_nv, zqM_nw, NW_.w_nw]), (fun q => ne_no q rx_221 rc_0), (fq_at hFI_222 hLx hkx (by decide) (by decide) q_22)⟩ dX12_readSaid_69
              · skip
                have n_233 : ¬ v_17 = 20 := h_219
                have r_234 := ne_hi (hi := 19) n_233 rv_17 rc_20 rfl (by decide)
                refine g_aload_n C 0 dX12_readSaid_55 rfl rfl ?_
                refine g_getI C K hLx hkx f_12_398 (v := 1) q_22 dX12_readSaid_56 ?_
                refine g_bipush C (v := 8) dX12_readSaid_59 (by decide) ?_
                refine g_icmp_ne C (tgt := 70) dX12_readSaid_61 (by decide) (fun h_235 => ?_) (fun h_235 => ?_)
                · skip
                  refine g_aload_n C 0 dX12_readSaid_70 rfl rfl ?_
                  refine g_dup C dX12_readSaid_71 rfl ?_
                  refine g_getI C K hLx hkx f_12_395 (v := v_17) q_21 dX12_readSaid_72 ?_
                  refine g_iconst C (v := 1) dX12_readSaid_75 (by decide) ?_
                  obtain ⟨x_236, hx_236, rx_236, tx_236⟩ := ex_add 1 20 r_234 rc_1 (by decide) (by decide) (by decide) (by decide)
                  refine g_iadd C (v := x_236) dX12_readSaid_76 hx_236 ?_
                  refine h_putI C K hLx hkx f_12_395 p_12_48 dX12_readSaid_77 (fun I_237 hI_237 => ?_)
                  have hU_238 := iw_put W9 hU hI_237 (ro_o hkx (by decide)) (lo := 0) (hi := 20) (rfl) (rg_w rx_236 (by decide) (by decide)) rfl
                  have hF_239 := fq_puto hF hI_237 hkx (by decide) (by decide)
                  have hs_240 : NVq I_237 J x b_4 = s_5 := by rw [hI_237]; exact (vq_oI wvqx (ro_o hkx (by decide)) (by decide)).trans hs_5
                  have hs_241 : NWq I_237 J x b_6 = s_7 := by rw [hI_237]; exact (zq_oI wzqx (ro_o hkx (by decide)) (by decide)).trans hs_7
                  have hs_242 : MTq I_237 J x b_8 = s_9 := by rw [hI_237]; exact (mq_uIt wmqx (by decide)).trans hs_9
                  have hs_243 : NRq I_237 J x b_10 b_11 = s_12 := by rw [hI_237]; exact (nq_uIt wnqx (by decide)).trans hs_12
                  have hs_244 : QTq I_237 J x = (QT_.w_om s_13 (x_236)) := by rw [hI_237]; exact ((qq_om wqqx).trans (congrArg (fun z : QT_ => QT_.w_om z (x_236)) hs_13)).trans rfl
                  refine g_aload_n C 0 dX12_readSaid_80 rfl rfl ?_
                  refine g_dup C dX12_readSaid_81 rfl ?_
                  refine g_getI C K hLx hkx f_12_398 (v := 1) (kp_j hI_237 (by decide) q_22) dX12_readSaid_82 ?_
                  refine g_iconst C (v := 1) dX12_readSaid_85 (by decide) ?_
                  refine g_iadd C (v := 2) dX12_readSaid_86 (by decide) ?_
                  refine h_putI C K hLx hkx f_12_398 p_12_49 dX12_readSaid_87 (fun I_245 hI_245 => ?_)
                  have hU_246 := iw_put W9 hU_238 hI_245 (ro_o hkx (by decide)) (lo := 0) (hi := 8) (rfl) (rg_w rc_2 (by decide) (by decide)) rfl
                  have hF_247 := fq_puto hF_239 hI_245 hkx (by decide) (by decide)
                  have hs_248 : NVq I_245 J x b_4 = s_5 := by rw [hI_245]; exact (vq_oI wvqx (ro_o hkx (by decide)) (by decide)).trans hs_240
                  have hs_249 : NWq I_245 J x b_6 = s_7 := by rw [hI_245]; exact (zq_oI wzqx (ro_o hkx (by decide)) (by decide)).trans hs_241
                  have hs_250 : MTq I_245 J x b_8 = s_9 := by rw [hI_245]; exact (mq_uIt wmqx (by decide)).trans hs_242
                  have hs_251 : NRq I_245 J x b_10 b_11 = s_12 := by rw [hI_245]; exact (nq_uIt wnqx (by decide)).trans hs_243
                  have hs_252 : QTq I_245 J x = (QT_.w_om s_13 (x_236)) := by rw [hI_245]; exact (qq_uIt wqqx (by decide)).trans hs_244
                  refine g_aload_n C 0 dX12_readSaid_90 rfl rfl ?_
                  refine g_callVV C K (c_X12_go W9 hLx hkx   hU_246) hLx hkx (by decide) rfl v_12_156 rfl ⟨rfl, rfl⟩ ⟨Nat.le_of_ble_eq_true rfl, Nat.le_of_ble_eq_true rfl⟩ (Nat.le_of_ble_eq_true rfl) ⟨Nat.le_of_ble_eq_true rfl, Nat.le_of_ble_eq_true rfl⟩ dX12_readSaid_91 rfl (st := []) (fun I_254 J_255 h_256 => ?_)
                  obtain ⟨hUI_254, hFI_254, hGJ_255, fx_253, ex_253⟩ := h_256
                  have hF_257 := fq_tr hF_247 hFI_254 (by decide)
                  have hG_258 := fq_tr hG hGJ_255 (by decide)
                  obtain ⟨s_260, hs_260⟩ : ∃ z, MTq I_254 J_255 x b_8 = z := ⟨_, rfl⟩
                  have c_259 : mGo (s_9) = s_260 := by have q := fx_253; simp only [emqx, hs_250, hs_260] at q; exact q.symm
                  have hs_261 : NVq I_254 J_255 x b_4 = s_5 := (vq_fq wvqx hFI_254 hGJ_255 (by decide) (by decide)).trans hs_248
                  have hs_262 : NWq I_254 J_255 x b_6 = s_7 := (zq_fq wzqx hFI_254 hGJ_255 (by decide) (by decide)).trans hs_249
                  have hs_263 : NRq I_254 J_255 x b_10 b_11 = s_12 := (nq_fq wnqx hFI_254 hGJ_255 (by decide) (by decide)).trans hs_251
                  have hs_264 : QTq I_254 J_255 x = (QT_.w_om s_13 (x_236)) := (qq_fq wqqx hFI_254 hGJ_255 (by decide) (by decide)).trans hs_252
                  refine g_iconst C (v := 1) dX12_readSaid_94 (by decide) ?_
                  refine g_istore_n C dX12_readSaid_95 rfl (by decide) (lo2 := [(3, .int 1), (0, .ref x), (1, .int v_14), (2, .int v_15)]) rfl ?_
                  refine g_iload_n C 2 dX12_readSaid_96 rfl rfl ?_
                  refine g_if_eq C (tgt := 108) dX12_readSaid_97 (by decide) (fun h_265 => ?_) (fun h_265 => ?_)
                  · skip
                    refine g_iload_n C 3 dX12_readSaid_108 rfl rfl ?_
                    refine g_bipush C (v := 18) dX12_readSaid_109 (by decide) ?_
                    refine g_icmp_ne C (tgt := 122) dX12_readSaid_111 (by decide) (fun h_266 => ?_) (fun h_266 => ?_)
                    · skip
                      have n_267 : ¬ v_15 = 18 := h_266
                      have r_268 := ne_lo (lo := 19) n_267 r_127 rc_18 rfl (by decide)
                      refine g_iload_n C 3 dX12_readSaid_122 rfl rfl ?_
                      refine g_bipush C (v := 22) dX12_readSaid_123 (by decide) ?_
                      refine g_icmp_ge C (tgt := 146) dX12_readSaid_125 (by decide) (fun h_269 => ?_) (fun h_269 => ?_)
                      · skip
                        have r_270 := le_r (h_269) rc_22 r_268
                        refine g_iload_n C 3 dX12_readSaid_146 rfl rfl ?_
                        refine g_bipush C (v := 24) dX12_readSaid_147 (by decide) ?_
                        refine g_icmp_ge C (tgt := 160) dX12_readSaid_149 (by decide) (fun h_271 => ?_) (fun h_271 => ?_)
                        · skip
                          have r_272 := le_r (h_271) rc_24 r_270
                          refine g_aload_n C 1 dX12_readSaid_160 rfl rfl ?_
                          refine g_iload_n C 3 dX12_readSaid_161 rfl rfl ?_
                          refine g_callVI C K (c_X12_readCompare W9 hLx hkx v_15 (r_272) hUI_254  (by rw [(fq_at hFI_254 hLx hkx (by decide) (by decide) (kp_j hI_245 (by decide) (kp_j hI_237 (by decide) q_20))), (fq_at hFI_254 hLx hkx (by decide) (by decide) (kp_j hI_245 (by decide) (kp_s hI_237)))]; have := (ti_k tx_236 rc_1); omega)) hLx hkx (by decide) rfl v_12_410 rfl ⟨rfl, rfl⟩ ⟨Nat.le_of_ble_eq_true rfl, Nat.le_of_ble_eq_true rfl⟩ (Nat.le_of_ble_eq_true rfl) ⟨Nat.le_of_ble_eq_true rfl, Nat.le_of_ble_eq_true rfl⟩ dX12_readSaid_162 rfl (st := []) (fun x_273 I_274 J_275 h_276 => ?_)
                          obtain ⟨hUI_274, hFI_274, hGJ_275, rx_273, fx_273, ex_273⟩ := h_276
                          have hF_277 := fq_tr hF_257 hFI_274 (by decide)
                          have hG_278 := fq_tr hG_258 hGJ_275 (by decide)
                          obtain ⟨s_280, hs_280⟩ : ∃ z, MTq I_274 J_275 x b_8 = z := ⟨_, rfl⟩
                          obtain ⟨s_281, hs_281⟩ : ∃ z, NRq I_274 J_275 x b_10 b_11 = z := ⟨_, rfl⟩
                          obtain ⟨s_282, hs_282⟩ : ∃ z, QTq I_274 J_275 x = z := ⟨_, rfl⟩
                          have c_279 : mCmp (s_260) (s_12) ((QT_.w_om s_13 (x_236))) = (x_273, s_280, s_281, s_282) := by have q := fx_273; simp only [emqx, enqx, eqqx, hs_260, hs_263, hs_264, hs_280, hs_281, hs_282] at q; exact q.symm
                          have hs_283 : NVq I_274 J_275 x b_4 = s_5 := (vq_fq wvqx hFI_274 hGJ_275 (by decide) (by decide)).trans hs_261
                          have hs_284 : NWq I_274 J_275 x b_6 = s_7 := (zq_fq wzqx hFI_274 hGJ_275 (by decide) (by decide)).trans hs_262
                          obtain ⟨x_285, hx_285, rx_285⟩ := ex_getw (I := I_274) (a := x) (j := 47) (lo := 0) (hi := 60) hUI_274.1 hLx (ro_o hkx (by decide)) rfl
                          obtain ⟨x_286, hx_286, rx_286⟩ := ex_getw (I := I_274) (a := x) (j := 50) (lo := 0) (hi := 59) hUI_274.1 hLx (ro_o hkx (by decide)) rfl
                          refine g_istore_n C dX12_readSaid_165 rfl (by decide) (lo2 := [(3, .int x_273), (0, .ref x), (1, .int v_14), (2, .int v_15)]) rfl ?_
                          refine g_aload_n C 1 dX12_readSaid_166 rfl rfl ?_
                          refine g_dup C dX12_readSaid_167 rfl ?_
                          refine g_getI C K hLx hkx f_12_398 (v := 2) (fq_at hFI_274 hLx hkx (by decide) (by decide) (fq_at hFI_254 hLx hkx (by decide) (by decide) (kp_s hI_245))) dX12_readSaid_168 ?_
                          refine g_iconst C (v := 1) dX12_readSaid_171 (by decide) ?_
                          refine g_isub C (v := 1) dX12_readSaid_172 (by decide) ?_
                          refine h_putI C K hLx hkx f_12_398 p_12_49 dX12_readSaid_173 (fun I_287 hI_287 => ?_)
                          have hU_288 := iw_put W9 hUI_274 hI_287 (ro_o hkx (by decide)) (lo := 0) (hi := 8) (rfl) (rg_w rc_1 (by decide) (by decide)) rfl
                          have hF_289 := fq_puto hF_277 hI_287 hkx (by decide) (by decide)
                          have hs_290 : NVq I_287 J_275 x b_4 = s_5 := by rw [hI_287]; exact (vq_oI wvqx (ro_o hkx (by decide)) (by decide)).trans hs_283
                          have hs_291 : NWq I_287 J_275 x b_6 = s_7 := by rw [hI_287]; exact (zq_oI wzqx (ro_o hkx (by decide)) (by decide)).trans hs_284
                          have hs_292 : MTq I_287 J_275 x b_8 = s_280 := by rw [hI_287]; exact (mq_uIt wmqx (by decide)).trans hs_280
                          have hs_293 : NRq I_287 J_275 x b_10 b_11 = s_281 := by rw [hI_287]; exact (nq_uIt wnqx (by decide)).trans hs_281
                          have hs_294 : QTq I_287 J_275 x = s_282 := by rw [hI_287]; exact (qq_uIt wqqx (by decide)).trans hs_282
                          refine g_iload_n C 0 dX12_readSaid_176 rfl rfl ?_
                          exact g_zret (ty := .boolean) (r := x_273) B K rfl (nar_z (rx_273)) ⟨hU_288, hF_289, hG_278, rx_273, (by (try simp only [h_30, (nlt h_30), c_132, h_133, (eq_true h_136), h_217, f_218, h_219, h_235, hx_236, c_259, (eq_true h_265), h_266, h_269, h_271, hx_285, hx_286, if_true, if_false, mqM_tp, mqM_size, mqM_limit, mqM_to, mqM_frm, mqM_kind, mqM_number, mqM_sign, mqM_word, MT_.w_tp, MT_.w_size, MT_.w_limit, MT_.w_to, MT_.w_frm, MT_.w_kind, MT_.w_number, MT_.w_sign, MT_.w_word, nqM_rd, nqM_rn, nqM_taped, nqM_mfault, nqM_mplace, nqM_told, nqM_hl, nqM_hd, NR_.w_rd, NR_.w_rn, NR_.w_taped, NR_.w_mfault, NR_.w_mplace, NR_.w_told, NR_.w_hl, NR_.w_hd, qqM_om, QT_.w_om, vqM_nv, NV_.w_nv, zqM_nw, NW_.w_nw] at hQ_28); (try simp only [h_30, (nlt h_30), c_132, h_133, (eq_true h_136), h_217, f_218, h_219, h_235, hx_236, c_259, (eq_true h_265), h_266, h_269, h_271, hx_285, hx_286, if_true, if_false, mqM_tp, mqM_size, mqM_limit, mqM_to, mqM_frm, mqM_kind, mqM_number, mqM_sign, mqM_word, MT_.w_tp, MT_.w_size, MT_.w_limit, MT_.w_to, MT_.w_frm, MT_.w_kind, MT_.w_number, MT_.w_sign, MT_.w_word, nqM_rd, nqM_rn, nqM_taped, nqM_mfault, nqM_mplace, nqM_told, nqM_hl, nqM_hd, NR_.w_rd, NR_.w_rn, NR_.w_taped, NR_.w_mfault, NR_.w_mplace, NR_.w_told, NR_.w_hl, NR_.w_hd, qqM_om, QT_.w_om, vqM_nv, NV_.w_nv, zqM_nw, NW_.w_nw] at u_29); (try simp only [h_30, (nlt h_30), c_132, h_133, (eq_true h_136), h_217, f_218, h_219, h_235, hx_236, c_259, (eq_true h_265), h_266, h_269, h_271, hx_285, hx_286, if_true, if_false, mqM_tp, mqM_size, mqM_limit, mqM_to, mqM_frm, mqM_kind, mqM_number, mqM_sign, mqM_word, MT_.w_tp, MT_.w_size, MT_.w_limit, MT_.w_to, MT_.w_frm, MT_.w_kind, MT_.w_number, MT_.w_sign, MT_.w_word, nqM_rd, nqM_rn, nqM_taped, nqM_mfault, nqM_mplace, nqM_told, nqM_hl, nqM_hd, NR_.w_rd, NR_.w_rn, NR_.w_taped, NR_.w_mfault, NR_.w_mplace, NR_.w_told, NR_.w_hl, NR_.w_hd, qqM_om, QT_.w_om, vqM_nv, NV_.w_nv, zqM_nw, NW_.w_nw] at c_279); simp only [mSd0, mSd1, mSd2, mBadQ, evqx, hs_290, hs_5, ezqx, hs_291, hs_7, emqx, hs_292, hs_9, enqx, hs_293, hs_12, eqqx, hs_294, hs_13, hQ_28, u_29, h_30, (nlt h_30), c_132, h_133, (eq_true h_136), h_217, f_218, h_219, h_235, hx_236, c_259, (eq_true h_265), h_266, h_269, h_271, c_279, hx_285, hx_286, if_true, if_false, mqM_tp, mqM_size, mqM_limit, mqM_to, mqM_frm, mqM_kind, mqM_number, mqM_sign, mqM_word, MT_.w_tp, MT_.w_size, MT_.w_limit, MT_.w_to, MT_.w_frm, MT_.w_kind, MT_.w_number, MT_.w_sign, MT_.w_word, nqM_rd, nqM_rn, nqM_taped, nqM_mfault, nqM_mplace, nqM_told, nqM_hl, nqM_hd, NR_.w_rd, NR_.w_rn, NR_.w_taped, NR_.w_mfault, NR_.w_mplace, NR_.w_told, NR_.w_hl, NR_.w_hd, qqM_om, QT_.w_om, vqM_nv, NV_.w_nv, zqM_nw, NW_.w_nw]), (fun hq => by have n_295 : ¬ x_273 = 0 := hq; have r_296 := ne_lo (lo := 1) n_295 rx_273 rc_0 rfl (by decide); have f_297 := sl_v (fq_at hFI_254 hLx hkx (by decide) (by decide) (kp_j hI_245 (by decide) (kp_j hI_237 (by decide) q_20))) hx_285 hx_286 (ex_273 n_295); have f_298 : s_282.om = x_236 := (congrArg QT_.om hs_294).symm.trans (kp_j hI_287 (by decide) (fq_at hFI_274 hLx hkx (by decide) (by decide) (fq_at hFI_254 hLx hkx (by decide) (by decide) (kp_j hI_245 (by decide) (kp_s hI_237))))); exact (sz_m hx_1 hx_2 (kp_j hI_287 (by decide) hx_285) (kp_j hI_287 (by decide) (fq_at hFI_274 hLx hkx (by decide) (by decide) (fq_at hFI_254 hLx hkx (by decide) (by decide) (kp_j hI_245 (by decide) (kp_s hI_237))))) (kp_j hI_287 (by decide) hx_286) ⟨by have := (ti_k tx_236 rc_1); omega, by have := (ti_k tx_236 rc_1); omega, by have := (ti_k tx_236 rc_1); omega, by have := (ti_k tx_236 rc_1); omega⟩)), (kp_s hI_287)⟩ dX12_readSaid_177
                        · skip
                          have r_299 := lt_l (hi := 23) (nle h_271) r_270 rc_24 (by decide)
                          refine g_aload_n C 1 dX12_readSaid_152 rfl rfl ?_
                          refine g_iload_n C 3 dX12_readSaid_153 rfl rfl ?_
                          refine g_callVI C K (c_X12_readOf W9 hLx hkx v_15 (r_299) hUI_254  (by rw [(fq_at hFI_254 hLx hkx (by decide) (by decide) (kp_j hI_245 (by decide) (kp_j hI_237 (by decide) q_20))), (fq_at hFI_254 hLx hkx (by decide) (by decide) (kp_j hI_245 (by decide) (kp_s hI_237)))]; have := (ti_k tx_236 rc_1); omega)) hLx hkx (by decide) rfl v_12_407 rfl ⟨rfl, rfl⟩ ⟨Nat.le_of_ble_eq_true rfl, Nat.le_of_ble_eq_true rfl⟩ (Nat.le_of_ble_eq_true rfl) ⟨Nat.le_of_ble_eq_true rfl, Nat.le_of_ble_eq_true rfl⟩ dX12_readSaid_154 rfl (st := []) (fun x_300 I_301 J_302 h_303 => ?_)
                          obtain ⟨hUI_301, hFI_301, hGJ_302, rx_300, fx_300, ex_300⟩ := h_303
                          have hF_304 := fq_tr hF_257 hFI_301 (by decide)
                          have hG_305 := fq_tr hG_258 hGJ_302 (by decide)
                          obtain ⟨s_307, hs_307⟩ : ∃ z, MTq I_301 J_302 x b_8 = z := ⟨_, rfl⟩
                          obtain ⟨s_308, hs_308⟩ : ∃ z, NRq I_301 J_302 x b_10 b_11 = z := ⟨_, rfl⟩
                          obtain ⟨s_309, hs_309⟩ : ∃ z, QTq I_301 J_302 x = z := ⟨_, rfl⟩
                          have c_306 : mOf (v_15) (s_5) (s_7) (s_260) (s_12) ((QT_.w_om s_13 (x_236))) = (x_300, s_307, s_308, s_309) := by have q := fx_300; simp only [evqx, ezqx, emqx, enqx, eqqx, hs_261, hs_262, hs_260, hs_263, hs_264, hs_307, hs_308, hs_309] at q; exact q.symm
                          have hs_310 : NVq I_301 J_302 x b_4 = s_5 := (vq_fq wvqx hFI_301 hGJ_302 (by decide) (by decide)).trans hs_261
                          have hs_311 : NWq I_301 J_302 x b_6 = s_7 := (zq_fq wzqx hFI_301 hGJ_302 (by decide) (by decide)).trans hs_262
                          obtain ⟨x_312, hx_312, rx_312⟩ := ex_getw (I := I_301) (a := x) (j := 47) (lo := 0) (hi := 60) hUI_301.1 hLx (ro_o hkx (by decide)) rfl
                          obtain ⟨x_313, hx_313, rx_313⟩ := ex_getw (I := I_301) (a := x) (j := 50) (lo := 0) (hi := 59) hUI_301.1 hLx (ro_o hkx (by decide)) rfl
                          refine g_goto C (tgt := 165) dX12_readSaid_157 (by decide) ?_
                          refine g_istore_n C dX12_readSaid_165 rfl (by decide) (lo2 := [(3, .int x_300), (0, .ref x), (1, .int v_14), (2, .int v_15)]) rfl ?_
                          refine g_aload_n C 1 dX12_readSaid_166 rfl rfl ?_
                          refine g_dup C dX12_readSaid_167 rfl ?_
                          refine g_getI C K hLx hkx f_12_398 (v := 2) (fq_at hFI_301 hLx hkx (by decide) (by decide) (fq_at hFI_254 hLx hkx (by decide) (by decide) (kp_s hI_245))) dX12_readSaid_168 ?_
                          refine g_iconst C (v := 1) dX12_readSaid_171 (by decide) ?_
                          refine g_isub C (v := 1) dX12_readSaid_172 (by decide) ?_
                          refine h_putI C K hLx hkx f_12_398 p_12_49 dX12_readSaid_173 (fun I_314 hI_314 => ?_)
                          have hU_315 := iw_put W9 hUI_301 hI_314 (ro_o hkx (by decide)) (lo := 0) (hi := 8) (rfl) (rg_w rc_1 (by decide) (by decide)) rfl
                          have hF_316 := fq_puto hF_304 hI_314 hkx (by decide) (by decide)
                          have hs_317 : NVq I_314 J_302 x b_4 = s_5 := by rw [hI_314]; exact (vq_oI wvqx (ro_o hkx (by decide)) (by decide)).trans hs_310
                          have hs_318 : NWq I_314 J_302 x b_6 = s_7 := by rw [hI_314]; exact (zq_oI wzqx (ro_o hkx (by decide)) (by decide)).trans hs_311
                          have hs_319 : MTq I_314 J_302 x b_8 = s_307 := by rw [hI_314]; exact (mq_uIt wmqx (by decide)).trans hs_307
                          have hs_320 : NRq I_314 J_302 x b_10 b_11 = s_308 := by rw [hI_314]; exact (nq_uIt wnqx (by decide)).trans hs_308
                          have hs_321 : QTq I_314 J_302 x = s_309 := by rw [hI_314]; exact (qq_uIt wqqx (by decide)).trans hs_309
                          refine g_iload_n C 0 dX12_readSaid_176 rfl rfl ?_
                          exact g_zret (ty := .boolean) (r := x_300) B K rfl (nar_z (rx_300)) ⟨hU_315, hF_316, hG_305, rx_300, (by first | ((try simp only [h_30, (nlt h_30), c_132, h_133, (eq_true h_136), h_217, f_218, h_219, h_235, hx_236, c_259, (eq_true h_265), h_266, h_269, h_271, (nle h_271), hx_312, hx_313, if_true, if_false, mqM_tp, mqM_size, mqM_limit, mqM_to, mqM_frm, mqM_kind, mqM_number, mqM_sign, mqM_word, MT_.w_tp, MT_.w_size, MT_.w_limit, MT_.w_to, MT_.w_frm, MT_.w_kind, MT_.w_number, MT_.w_sign, MT_.w_word, nqM_rd, nqM_rn, nqM_taped, nqM_mfault, nqM_mplace, nqM_told, nqM_hl, nqM_hd, NR_.w_rd, NR_.w_rn, NR_.w_taped, NR_.w_mfault, NR_.w_mplace, NR_.w_told, NR_.w_hl, NR_.w_hd, qqM_om, QT_.w_om, vqM_nv, NV_.w_nv, zqM_nw, NW_.w_nw] at hQ_28); (try simp only [h_30, (nlt h_30), c_132, h_133, (eq_true h_136), h_217, f_218, h_219, h_235, hx_236, c_259, (eq_true h_265), h_266, h_269, h_271, (nle h_271), hx_312, hx_313, if_true, if_false, mqM_tp, mqM_size, mqM_limit, mqM_to, mqM_frm, mqM_kind, mqM_number, mqM_sign, mqM_word, MT_.w_tp, MT_.w_size, MT_.w_limit, MT_.w_to, MT_.w_frm, MT_.w_kind, MT_.w_number, MT_.w_sign, MT_.w_word, nqM_rd, nqM_rn, nqM_taped, nqM_mfault, nqM_mplace, nqM_told, nqM_hl, nqM_hd, NR_.w_rd, NR_.w_rn, NR_.w_taped, NR_.w_mfault, NR_.w_mplace, NR_.w_told, NR_.w_hl, NR_.w_hd, qqM_om, QT_.w_om, vqM_nv, NV_.w_nv, zqM_nw, NW_.w_nw] at u_29); (try simp only [h_30, (nlt h_30), c_132, h_133, (eq_true h_136), h_217, f_218, h_219, h_235, hx_236, c_259, (eq_true h_265), h_266, h_269, h_271, (nle h_271), hx_312, hx_313, if_true, if_false, mqM_tp, mqM_size, mqM_limit, mqM_to, mqM_frm, mqM_kind, mqM_number, mqM_sign, mqM_word, MT_.w_tp, MT_.w_size, MT_.w_limit, MT_.w_to, MT_.w_frm, MT_.w_kind, MT_.w_number, MT_.w_sign, MT_.w_word, nqM_rd, nqM_rn, nqM_taped, nqM_mfault, nqM_mplace, nqM_told, nqM_hl, nqM_hd, NR_.w_rd, NR_.w_rn, NR_.w_taped, NR_.w_mfault, NR_.w_mplace, NR_.w_told, NR_.w_hl, NR_.w_hd, qqM_om, QT_.w_om, vqM_nv, NV_.w_nv, zqM_nw, NW_.w_nw] at c_306); simp only [mSd0, mSd1, mSd2, mBadQ, evqx, hs_317, hs_5, ezqx, hs_318, hs_7, emqx, hs_319, hs_9, enqx, hs_320, hs_12, eqqx, hs_321, hs_13, hQ_28, u_29, h_30, (nlt h_30), c_132, h_133, (eq_true h_136), h_217, f_218, h_219, h_235, hx_236, c_259, (eq_true h_265), h_266, h_269, h_271, (nle h_271), c_306, hx_312, hx_313, if_true, if_false, mqM_tp, mqM_size, mqM_limit, mqM_to, mqM_frm, mqM_kind, mqM_number, mqM_sign, mqM_word, MT_.w_tp, MT_.w_size, MT_.w_limit, MT_.w_to, MT_.w_frm, MT_.w_kind, MT_.w_number, MT_.w_sign, MT_.w_word, nqM_rd, nqM_rn, nqM_taped, nqM_mfault, nqM_mplace, nqM_told, nqM_hl, nqM_hd, NR_.w_rd, NR_.w_rn, NR_.w_taped, NR_.w_mfault, NR_.w_mplace, NR_.w_told, NR_.w_hl, NR_.w_hd, qqM_om, QT_.w_om, vqM_nv, NV_.w_nv, zqM_nw, NW_.w_nw]; done) | exact absurd (nle h_271) h_30), (fun hq => by have n_322 : ¬ x_300 = 0 := hq; have r_323 := ne_lo (lo := 1) n_322 rx_300 rc_0 rfl (by decide); have f_324 := sl_v (fq_at hFI_254 hLx hkx (by decide) (by decide) (kp_j hI_245 (by decide) (kp_j hI_237 (by decide) q_20))) hx_312 hx_313 (ex_300 n_322); have f_325 : s_309.om = x_236 := (congrArg QT_.om hs_321).symm.trans (kp_j hI_314 (by decide) (fq_at hFI_301 hLx hkx (by decide) (by decide) (fq_at hFI_254 hLx hkx (by decide) (by decide) (kp_j hI_245 (by decide) (kp_s hI_237))))); exact (sz_m hx_1 hx_2 (kp_j hI_314 (by decide) hx_312) (kp_j hI_314 (by decide) (fq_at hFI_301 hLx hkx (by decide) (by decide) (fq_at hFI_254 hLx hkx (by decide) (by decide) (kp_j hI_245 (by decide) (kp_s hI_237))))) (kp_j hI_314 (by decide) hx_313) ⟨by have := (ti_k tx_236 rc_1); omega, by have := (ti_k tx_236 rc_1); omega, by have := (ti_k tx_236 rc_1); omega, by have := (ti_k tx_236 rc_1); omega⟩)), (kp_s hI_314)⟩ dX12_readSaid_177
                      · skip
                        have r_326 := lt_l (hi := 21) (nle h_269) r_268 rc_22 (by decide)
                        refine g_aload_n C 1 dX12_readSaid_128 rfl rfl ?_
                        refine g_aload_n C 1 dX12_readSaid_129 rfl rfl ?_
                        refine g_bipush C (v := 50) dX12_readSaid_130 (by decide) ?_
                        refine g_iload_n C 3 dX12_readSaid_132 rfl rfl ?_
                        obtain ⟨x_327, hx_327, rx_327, tx_327⟩ := ex_add 69 71 rc_50 r_326 (by decide) (by decide) (by decide) (by decide)
                        refine g_iadd C (v := x_327) dX12_readSaid_133 hx_327 ?_
                        refine g_iconst C (v := 0) dX12_readSaid_134 (by decide) ?_
                        refine g_iconst C (v := 0) dX12_readSaid_135 (by decide) ?_
                        refine g_iconst C (v := 0) dX12_readSaid_136 (by decide) ?_
                        have r_328 := (show Rg 0 59 v_16 from by have q1 := rv_16; have q2 := rx_236; unfold Rg at *; omega)
                        refine g_callVI C K (c_X12_saysOne W9 hLx hkx x_327 0 0 0 (rg_w rx_327 (by decide) (by decide)) (rg_w rc_0 (by decide) (by decide)) (rg_w rc_0 (by decide) (by decide)) hUI_254  (eq_rg (fq_at hFI_254 hLx hkx (by decide) (by decide) (kp_j hI_245 (by decide) (kp_j hI_237 (by decide) q_20))) (r_328)) (by rw [(fq_at hFI_254 hLx hkx (by decide) (by decide) (kp_j hI_245 (by decide) (kp_j hI_237 (by decide) q_20)))]; exact ⟨fun q => by rcases q with q | q | q; exact absurd q (rg_nek rx_327 rc_1 (by decide)); exact absurd q (rg_nek rx_327 rc_2 (by decide)); exact absurd q (rg_nek rx_327 rc_3 (by decide)), fun q => by rcases q with q | q; exact absurd q (rg_nek rx_327 rc_2 (by decide)); exact absurd q (rg_nek rx_327 rc_3 (by decide)), fun q => absurd q (rg_nek rx_327 rc_73 (by decide))⟩)) hLx hkx (by decide) rfl v_12_389 rfl ⟨rfl, rfl⟩ ⟨Nat.le_of_ble_eq_true rfl, Nat.le_of_ble_eq_true rfl⟩ (Nat.le_of_ble_eq_true rfl) ⟨Nat.le_of_ble_eq_true rfl, Nat.le_of_ble_eq_true rfl⟩ dX12_readSaid_137 rfl (st := [.ref x]) (fun x_329 I_330 J_331 h_332 => ?_)
                        obtain ⟨hUI_330, hFI_330, hGJ_331, rx_329, ex_329⟩ := h_332
                        have hF_333 := fq_tr hF_257 hFI_330 (by decide)
                        have hG_334 := fq_tr hG_258 hGJ_331 (by decide)
                        have hs_335 : NVq I_330 J_331 x b_4 = s_5 := (vq_fq wvqx hFI_330 hGJ_331 (by decide) (by decide)).trans hs_261
                        have hs_336 : NWq I_330 J_331 x b_6 = s_7 := (zq_fq wzqx hFI_330 hGJ_331 (by decide) (by decide)).trans hs_262
                        have hs_337 : MTq I_330 J_331 x b_8 = s_260 := (mq_fq wmqx hFI_330 hGJ_331 (by decide) (by decide)).trans hs_260
                        have hs_338 : NRq I_330 J_331 x b_10 b_11 = s_12 := (nq_fq wnqx hFI_330 hGJ_331 (by decide) (by decide)).trans hs_263
                        have hs_339 : QTq I_330 J_331 x = (QT_.w_om s_13 (x_236)) := (qq_fq wqqx hFI_330 hGJ_331 (by decide) (by decide)).trans hs_264
                        obtain ⟨x_340, hx_340, rx_340, tx_340, ux_340⟩ := sa_b (lo := 1) (hi := 60) ex_329 (fq_at hFI_254 hLx hkx (by decide) (by decide) (kp_j hI_245 (by decide) (kp_j hI_237 (by decide) q_20))) r_328 (by decide) (by decide)
                        have r_341 := (show Rg 0 59 x_329 from by have q1 := ux_340; have q2 := r_328; unfold Rg at *; omega)
                        refine h_putI C K hLx hkx f_12_386 p_12_50 dX12_readSaid_140 (fun I_342 hI_342 => ?_)
                        have hU_343 := iw_put W9 hUI_330 hI_342 (ro_o hkx (by decide)) (lo := 0) (hi := 59) (rfl) (r_341) rfl
                        have hF_344 := fq_puto hF_333 hI_342 hkx (by decide) (by decide)
                        have hs_345 : NVq I_342 J_331 x b_4 = s_5 := by rw [hI_342]; exact (vq_oI wvqx (ro_o hkx (by decide)) (by decide)).trans hs_335
                        have hs_346 : NWq I_342 J_331 x b_6 = s_7 := by rw [hI_342]; exact (zq_oI wzqx (ro_o hkx (by decide)) (by decide)).trans hs_336
                        have hs_347 : MTq I_342 J_331 x b_8 = s_260 := by rw [hI_342]; exact (mq_uIt wmqx (by decide)).trans hs_337
                        have hs_348 : NRq I_342 J_331 x b_10 b_11 = s_12 := by rw [hI_342]; exact (nq_uIt wnqx (by decide)).trans hs_338
                        have hs_349 : QTq I_342 J_331 x = (QT_.w_om s_13 (x_236)) := by rw [hI_342]; exact (qq_uIt wqqx (by decide)).trans hs_339
                        refine g_goto C (tgt := 166) dX12_readSaid_143 (by decide) ?_
                        refine g_aload_n C 1 dX12_readSaid_166 rfl rfl ?_
                        refine g_dup C dX12_readSaid_167 rfl ?_
                        refine g_getI C K hLx hkx f_12_398 (v := 2) (kp_j hI_342 (by decide) (fq_at hFI_330 hLx hkx (by decide) (by decide) (fq_at hFI_254 hLx hkx (by decide) (by decide) (kp_s hI_245)))) dX12_readSaid_168 ?_
                        refine g_iconst C (v := 1) dX12_readSaid_171 (by decide) ?_
                        refine g_isub C (v := 1) dX12_readSaid_172 (by decide) ?_
                        refine h_putI C K hLx hkx f_12_398 p_12_49 dX12_readSaid_173 (fun I_350 hI_350 => ?_)
                        have hU_351 := iw_put W9 hU_343 hI_350 (ro_o hkx (by decide)) (lo := 0) (hi := 8) (rfl) (rg_w rc_1 (by decide) (by decide)) rfl
                        have hF_352 := fq_puto hF_344 hI_350 hkx (by decide) (by decide)
                        have hs_353 : NVq I_350 J_331 x b_4 = s_5 := by rw [hI_350]; exact (vq_oI wvqx (ro_o hkx (by decide)) (by decide)).trans hs_345
                        have hs_354 : NWq I_350 J_331 x b_6 = s_7 := by rw [hI_350]; exact (zq_oI wzqx (ro_o hkx (by decide)) (by decide)).trans hs_346
                        have hs_355 : MTq I_350 J_331 x b_8 = s_260 := by rw [hI_350]; exact (mq_uIt wmqx (by decide)).trans hs_347
                        have hs_356 : NRq I_350 J_331 x b_10 b_11 = s_12 := by rw [hI_350]; exact (nq_uIt wnqx (by decide)).trans hs_348
                        have hs_357 : QTq I_350 J_331 x = (QT_.w_om s_13 (x_236)) := by rw [hI_350]; exact (qq_uIt wqqx (by decide)).trans hs_349
                        refine g_iload_n C 0 dX12_readSaid_176 rfl rfl ?_
                        exact g_zret (ty := .boolean) (r := 1) B K rfl (rfl) ⟨hU_351, hF_352, hG_334, rg_w rc_1 (by decide) (by decide), (by first | ((try simp only [h_30, (nlt h_30), c_132, h_133, (eq_true h_136), h_217, f_218, h_219, h_235, hx_236, c_259, (eq_true h_265), h_266, h_269, (nle h_269), hx_327, hx_340, if_true, if_false, mqM_tp, mqM_size, mqM_limit, mqM_to, mqM_frm, mqM_kind, mqM_number, mqM_sign, mqM_word, MT_.w_tp, MT_.w_size, MT_.w_limit, MT_.w_to, MT_.w_frm, MT_.w_kind, MT_.w_number, MT_.w_sign, MT_.w_word, nqM_rd, nqM_rn, nqM_taped, nqM_mfault, nqM_mplace, nqM_told, nqM_hl, nqM_hd, NR_.w_rd, NR_.w_rn, NR_.w_taped, NR_.w_mfault, NR_.w_mplace, NR_.w_told, NR_.w_hl, NR_.w_hd, qqM_om, QT_.w_om, vqM_nv, NV_.w_nv, zqM_nw, NW_.w_nw] at hQ_28); (try simp only [h_30, (nlt h_30), c_132, h_133, (eq_true h_136), h_217, f_218, h_219, h_235, hx_236, c_259, (eq_true h_265), h_266, h_269, (nle h_269), hx_327, hx_340, if_true, if_false, mqM_tp, mqM_size, mqM_limit, mqM_to, mqM_frm, mqM_kind, mqM_number, mqM_sign, mqM_word, MT_.w_tp, MT_.w_size, MT_.w_limit, MT_.w_to, MT_.w_frm, MT_.w_kind, MT_.w_number, MT_.w_sign, MT_.w_word, nqM_rd, nqM_rn, nqM_taped, nqM_mfault, nqM_mplace, nqM_told, nqM_hl, nqM_hd, NR_.w_rd, NR_.w_rn, NR_.w_taped, NR_.w_mfault, NR_.w_mplace, NR_.w_told, NR_.w_hl, NR_.w_hd, qqM_om, QT_.w_om, vqM_nv, NV_.w_nv, zqM_nw, NW_.w_nw] at u_29); simp only [mSd0, mSd1, mSd2, mBadQ, evqx, hs_353, hs_5, ezqx, hs_354, hs_7, emqx, hs_355, hs_9, enqx, hs_356, hs_12, eqqx, hs_357, hs_13, hQ_28, u_29, h_30, (nlt h_30), c_132, h_133, (eq_true h_136), h_217, f_218, h_219, h_235, hx_236, c_259, (eq_true h_265), h_266, h_269, (nle h_269), hx_327, hx_340, if_true, if_false, mqM_tp, mqM_size, mqM_limit, mqM_to, mqM_frm, mqM_kind, mqM_number, mqM_sign, mqM_word, MT_.w_tp, MT_.w_size, MT_.w_limit, MT_.w_to, MT_.w_frm, MT_.w_kind, MT_.w_number, MT_.w_sign, MT_.w_word, nqM_rd, nqM_rn, nqM_taped, nqM_mfault, nqM_mplace, nqM_told, nqM_hl, nqM_hd, NR_.w_rd, NR_.w_rn, NR_.w_taped, NR_.w_mfault, NR_.w_mplace, NR_.w_told, NR_.w_hl, NR_.w_hd, qqM_om, QT_.w_om, vqM_nv, NV_.w_nv, zqM_nw, NW_.w_nw]; done) | exact absurd (nle h_269) h_30), (fun _ => (sz_m hx_1 hx_2 (kp_j hI_350 (by decide) (kp_j hI_342 (by decide) hx_340)) (kp_j hI_350 (by decide) (kp_j hI_342 (by decide) (fq_at hFI_330 hLx hkx (by decide) (by decide) (fq_at hFI_254 hLx hkx (by decide) (by decide) (kp_j hI_245 (by decide) (kp_s hI_237)))))) (kp_j hI_350 (by decide) (kp_s hI_342)) ⟨by have := tx_340; have := (ti_k tx_236 rc_1); omega, by have := tx_340; have := (ti_k tx_236 rc_1); omega, by have := tx_340; have := (ti_k tx_236 rc_1); omega, by have := tx_340; have := (ti_k tx_236 rc_1); omega⟩)), (kp_s hI_350)⟩ dX12_readSaid_177
                    · skip
                      have r_358 := (⟨(r_127).1, (eq_rg (h_266) rc_18).2⟩ : Rg 18 18 v_15)
                      refine g_aload_n C 1 dX12_readSaid_114 rfl rfl ?_
                      refine g_callVI C K (c_X12_readNot_2 W9 hLx hkx   hUI_254  (by rw [(fq_at hFI_254 hLx hkx (by decide) (by decide) (kp_j hI_245 (by decide) (kp_j hI_237 (by decide) q_20))), (fq_at hFI_254 hLx hkx (by decide) (by decide) (kp_j hI_245 (by decide) (kp_s hI_237)))]; have := (ti_k tx_236 rc_1); omega) ((fq_at hFI_254 hLx hkx (by decide) (by decide) (kp_s hI_245)))) hLx hkx (by decide) rfl v_12_404 rfl ⟨rfl, rfl⟩ ⟨Nat.le_of_ble_eq_true rfl, Nat.le_of_ble_eq_true rfl⟩ (Nat.le_of_ble_eq_true rfl) ⟨Nat.le_of_ble_eq_true rfl, Nat.le_of_ble_eq_true rfl⟩ dX12_readSaid_115 rfl (st := []) (fun x_359 I_360 J_361 h_362 => ?_)
                      obtain ⟨hUI_360, hFI_360, hGJ_361, rx_359, fx_359, ex_359⟩ := h_362
                      have hF_363 := fq_tr hF_257 hFI_360 (by decide)
                      have hG_364 := fq_tr hG_258 hGJ_361 (by decide)
                      obtain ⟨s_366, hs_366⟩ : ∃ z, MTq I_360 J_361 x b_8 = z := ⟨_, rfl⟩
                      obtain ⟨s_367, hs_367⟩ : ∃ z, NRq I_360 J_361 x b_10 b_11 = z := ⟨_, rfl⟩
                      obtain ⟨s_368, hs_368⟩ : ∃ z, QTq I_360 J_361 x = z := ⟨_, rfl⟩
                      have c_365 : mNtK 6 (s_5) (s_7) (s_260) (s_12) ((QT_.w_om s_13 (x_236))) = (x_359, s_366, s_367, s_368) := by have q := fx_359; simp only [evqx, ezqx, emqx, enqx, eqqx, hs_261, hs_262, hs_260, hs_263, hs_264, hs_366, hs_367, hs_368] at q; exact q.symm
                      have hs_369 : NVq I_360 J_361 x b_4 = s_5 := (vq_fq wvqx hFI_360 hGJ_361 (by decide) (by decide)).trans hs_261
                      have hs_370 : NWq I_360 J_361 x b_6 = s_7 := (zq_fq wzqx hFI_360 hGJ_361 (by decide) (by decide)).trans hs_262
                      obtain ⟨x_371, hx_371, rx_371⟩ := ex_getw (I := I_360) (a := x) (j := 47) (lo := 0) (hi := 60) hUI_360.1 hLx (ro_o hkx (by decide)) rfl
                      obtain ⟨x_372, hx_372, rx_372⟩ := ex_getw (I := I_360) (a := x) (j := 50) (lo := 0) (hi := 59) hUI_360.1 hLx (ro_o hkx (by decide)) rfl
                      obtain ⟨x_373, hx_373, rx_373⟩ := ex_getw (I := I_360) (a := x) (j := 48) (lo := 0) (hi := 20) hUI_360.1 hLx (ro_o hkx (by decide)) rfl
                      have f_374 : s_368.om = x_373 := (congrArg QT_.om hs_368).symm.trans hx_373
                      refine g_istore_n C dX12_readSaid_118 rfl (by decide) (lo2 := [(3, .int x_359), (0, .ref x), (1, .int v_14), (2, .int v_15)]) rfl ?_
                      refine g_goto C (tgt := 166) dX12_readSaid_119 (by decide) ?_
                      refine g_aload_n C 1 dX12_readSaid_166 rfl rfl ?_
                      refine g_dup C dX12_readSaid_167 rfl ?_
                      refine g_getI C K hLx hkx f_12_398 (v := 2) ex_359.2 dX12_readSaid_168 ?_
                      refine g_iconst C (v := 1) dX12_readSaid_171 (by decide) ?_
                      refine g_isub C (v := 1) dX12_readSaid_172 (by decide) ?_
                      refine h_putI C K hLx hkx f_12_398 p_12_49 dX12_readSaid_173 (fun I_375 hI_375 => ?_)
                      have hU_376 := iw_put W9 hUI_360 hI_375 (ro_o hkx (by decide)) (lo := 0) (hi := 8) (rfl) (rg_w rc_1 (by decide) (by decide)) rfl
                      have hF_377 := fq_puto hF_363 hI_375 hkx (by decide) (by decide)
                      have hs_378 : NVq I_375 J_361 x b_4 = s_5 := by rw [hI_375]; exact (vq_oI wvqx (ro_o hkx (by decide)) (by decide)).trans hs_369
                      have hs_379 : NWq I_375 J_361 x b_6 = s_7 := by rw [hI_375]; exact (zq_oI wzqx (ro_o hkx (by decide)) (by decide)).trans hs_370
                      have hs_380 : MTq I_375 J_361 x b_8 = s_366 := by rw [hI_375]; exact (mq_uIt wmqx (by decide)).trans hs_366
                      have hs_381 : NRq I_375 J_361 x b_10 b_11 = s_367 := by rw [hI_375]; exact (nq_uIt wnqx (by decide)).trans hs_367
                      have hs_382 : QTq I_375 J_361 x = s_368 := by rw [hI_375]; exact (qq_uIt wqqx (by decide)).trans hs_368
                      refine g_iload_n C 0 dX12_readSaid_176 rfl rfl ?_
                      exact g_zret (ty := .boolean) (r := x_359) B K rfl (nar_z (rx_359)) ⟨hU_376, hF_377, hG_364, rx_359, (by (try simp only [h_30, (nlt h_30), c_132, h_133, (eq_true h_136), h_217, f_218, h_219, h_235, hx_236, c_259, (eq_true h_265), (eq_true h_266), hx_371, hx_372, hx_373, f_374, if_true, if_false, mqM_tp, mqM_size, mqM_limit, mqM_to, mqM_frm, mqM_kind, mqM_number, mqM_sign, mqM_word, MT_.w_tp, MT_.w_size, MT_.w_limit, MT_.w_to, MT_.w_frm, MT_.w_kind, MT_.w_number, MT_.w_sign, MT_.w_word, nqM_rd, nqM_rn, nqM_taped, nqM_mfault, nqM_mplace, nqM_told, nqM_hl, nqM_hd, NR_.w_rd, NR_.w_rn, NR_.w_taped, NR_.w_mfault, NR_.w_mplace, NR_.w_told, NR_.w_hl, NR_.w_hd, qqM_om, QT_.w_om, vqM_nv, NV_.w_nv, zqM_nw, NW_.w_nw] at hQ_28); (try simp only [h_30, (nlt h_30), c_132, h_133, (eq_true h_136), h_217, f_218, h_219, h_235, hx_236, c_259, (eq_true h_265), (eq_true h_266), hx_371, hx_372, hx_373, f_374, if_true, if_false, mqM_tp, mqM_size, mqM_limit, mqM_to, mqM_frm, mqM_kind, mqM_number, mqM_sign, mqM_word, MT_.w_tp, MT_.w_size, MT_.w_limit, MT_.w_to, MT_.w_frm, MT_.w_kind, MT_.w_number, MT_.w_sign, MT_.w_word, nqM_rd, nqM_rn, nqM_taped, nqM_mfault, nqM_mplace, nqM_told, nqM_hl, nqM_hd, NR_.w_rd, NR_.w_rn, NR_.w_taped, NR_.w_mfault, NR_.w_mplace, NR_.w_told, NR_.w_hl, NR_.w_hd, qqM_om, QT_.w_om, vqM_nv, NV_.w_nv, zqM_nw, NW_.w_nw] at u_29); (try simp only [h_30, (nlt h_30), c_132, h_133, (eq_true h_136), h_217, f_218, h_219, h_235, hx_236, c_259, (eq_true h_265), (eq_true h_266), hx_371, hx_372, hx_373, f_374, if_true, if_false, mqM_tp, mqM_size, mqM_limit, mqM_to, mqM_frm, mqM_kind, mqM_number, mqM_sign, mqM_word, MT_.w_tp, MT_.w_size, MT_.w_limit, MT_.w_to, MT_.w_frm, MT_.w_kind, MT_.w_number, MT_.w_sign, MT_.w_word, nqM_rd, nqM_rn, nqM_taped, nqM_mfault, nqM_mplace, nqM_told, nqM_hl, nqM_hd, NR_.w_rd, NR_.w_rn, NR_.w_taped, NR_.w_mfault, NR_.w_mplace, NR_.w_told, NR_.w_hl, NR_.w_hd, qqM_om, QT_.w_om, vqM_nv, NV_.w_nv, zqM_nw, NW_.w_nw] at c_365); simp only [mSd0, mSd1, mSd2, mBadQ, evqx, hs_378, hs_5, ezqx, hs_379, hs_7, emqx, hs_380, hs_9, enqx, hs_381, hs_12, eqqx, hs_382, hs_13, hQ_28, u_29, h_30, (nlt h_30), c_132, h_133, (eq_true h_136), h_217, f_218, h_219, h_235, hx_236, c_259, (eq_true h_265), (eq_true h_266), c_365, hx_371, hx_372, hx_373, f_374, if_true, if_false, mqM_tp, mqM_size, mqM_limit, mqM_to, mqM_frm, mqM_kind, mqM_number, mqM_sign, mqM_word, MT_.w_tp, MT_.w_size, MT_.w_limit, MT_.w_to, MT_.w_frm, MT_.w_kind, MT_.w_number, MT_.w_sign, MT_.w_word, nqM_rd, nqM_rn, nqM_taped, nqM_mfault, nqM_mplace, nqM_told, nqM_hl, nqM_hd, NR_.w_rd, NR_.w_rn, NR_.w_taped, NR_.w_mfault, NR_.w_mplace, NR_.w_told, NR_.w_hl, NR_.w_hd, qqM_om, QT_.w_om, vqM_nv, NV_.w_nv, zqM_nw, NW_.w_nw]), (fun hq => by have n_383 : ¬ x_359 = 0 := hq; have r_384 := ne_lo (lo := 1) n_383 rx_359 rc_0 rfl (by decide); have f_385 := sz_v (fq_at hFI_254 hLx hkx (by decide) (by decide) (kp_j hI_245 (by decide) (kp_j hI_237 (by decide) q_20))) (fq_at hFI_254 hLx hkx (by decide) (by decide) (kp_j hI_245 (by decide) (kp_s hI_237))) hx_371 hx_373 hx_372 (ex_359.1 n_383); have f_386 := (ti_k tx_236 rc_1); exact (sz_m hx_1 hx_2 (kp_j hI_375 (by decide) hx_371) (kp_j hI_375 (by decide) hx_373) (kp_j hI_375 (by decide) hx_372) ⟨by omega, by omega, by omega, by omega⟩)), (kp_s hI_375)⟩ dX12_readSaid_177
                  · skip
                    exact ne_no (h_265) r_216 rc_0
                · skip
                  exact absurd (h_235) (by decide)
            · skip
              have r_387 := lt_r (lo := 28) (nle h_217) rc_27 r_127 (by decide)
              exact rg_no r_387 (by decide)
        · skip
          have r_388 := (⟨(rx_128).1, (eq_rg (h_133) rc_0).2⟩ : Rg 0 0 x_128)
          obtain ⟨x_389, hx_389, rx_389, tx_389⟩ := ex_add (y := 1) 19 28 r_127 rc_1 (by decide) (by decide) (by decide) (by decide)
          refine g_iinc C dX12_readSaid_24 (k := 2) (v := x_389) rfl hx_389 (by decide) (lo2 := [(2, .int x_389), (0, .ref x), (1, .int v_14)]) rfl ?_
          refine g_goto C (tgt := 10) dX12_readSaid_27 (by decide) ?_
          have f_390 : s_13.om = v_17 := (congrArg QT_.om hs_13).symm.trans q_21
          refine g_lo (is := [1, 2, 0]) (lo2 := [(0, .ref x), (1, .int v_14), (2, .int x_389)]) rfl ?_
          exact ih_10 v_14 (rv_14) x_389 (rg_w rx_389 (by decide) (by decide)) v_16 (rv_16) v_17 (rv_17) v_18 (rv_18) v_19 (rv_19) q_20 q_21 q_22 q_23 q_24 (by (try simp only [h_30, (nlt h_30), c_132, (eq_true h_133), hx_389, if_true, if_false, mqM_tp, mqM_size, mqM_limit, mqM_to, mqM_frm, mqM_kind, mqM_number, mqM_sign, mqM_word, MT_.w_tp, MT_.w_size, MT_.w_limit, MT_.w_to, MT_.w_frm, MT_.w_kind, MT_.w_number, MT_.w_sign, MT_.w_word, nqM_rd, nqM_rn, nqM_taped, nqM_mfault, nqM_mplace, nqM_told, nqM_hl, nqM_hd, NR_.w_rd, NR_.w_rn, NR_.w_taped, NR_.w_mfault, NR_.w_mplace, NR_.w_told, NR_.w_hl, NR_.w_hd, qqM_om, QT_.w_om, vqM_nv, NV_.w_nv, zqM_nw, NW_.w_nw] at hQ_28); (try simp only [h_30, (nlt h_30), c_132, (eq_true h_133), hx_389, if_true, if_false, mqM_tp, mqM_size, mqM_limit, mqM_to, mqM_frm, mqM_kind, mqM_number, mqM_sign, mqM_word, MT_.w_tp, MT_.w_size, MT_.w_limit, MT_.w_to, MT_.w_frm, MT_.w_kind, MT_.w_number, MT_.w_sign, MT_.w_word, nqM_rd, nqM_rn, nqM_taped, nqM_mfault, nqM_mplace, nqM_told, nqM_hl, nqM_hd, NR_.w_rd, NR_.w_rn, NR_.w_taped, NR_.w_mfault, NR_.w_mplace, NR_.w_told, NR_.w_hl, NR_.w_hd, qqM_om, QT_.w_om, vqM_nv, NV_.w_nv, zqM_nw, NW_.w_nw] at u_29); simp only [mSd0, mSd1, mSd2, mBadQ, evqx, hs_5, ezqx, hs_7, emqx, hs_9, enqx, hs_12, eqqx, hs_13, hQ_28, u_29, h_30, (nlt h_30), c_132, (eq_true h_133), hx_389, if_true, if_false, mqM_tp, mqM_size, mqM_limit, mqM_to, mqM_frm, mqM_kind, mqM_number, mqM_sign, mqM_word, MT_.w_tp, MT_.w_size, MT_.w_limit, MT_.w_to, MT_.w_frm, MT_.w_kind, MT_.w_number, MT_.w_sign, MT_.w_word, nqM_rd, nqM_rn, nqM_taped, nqM_mfault, nqM_mplace, nqM_told, nqM_hl, nqM_hd, NR_.w_rd, NR_.w_rn, NR_.w_taped, NR_.w_mfault, NR_.w_mplace, NR_.w_told, NR_.w_hl, NR_.w_hd, qqM_om, QT_.w_om, vqM_nv, NV_.w_nv, zqM_nw, NW_.w_nw]) ⟨by omega, by omega⟩ (ms_1 hm_27 (ti_k tx_389 rc_1) (by decide))
  refine g_aload_n C 0 dX12_readSaid_0 rfl rfl ?_
  refine g_bipush C (v := 40) dX12_readSaid_1 (by decide) ?_
  obtain ⟨x_391, hx_391, rx_391⟩ := ex_getw (I := I) (a := x) (j := 7) (lo := 0) (hi := 4) hU.1 hLx (ro_o hkx (by decide)) rfl
  have f_392 : s_9.kind = x_391 := (congrArg MT_.kind hs_9).symm.trans hx_391
  refine g_callVI C K (c_X12_isSign W9 hLx hkx 40 (rg_w rc_40 (by decide) (by decide)) hU) hLx hkx (by decide) rfl v_12_159 rfl ⟨rfl, rfl⟩ ⟨Nat.le_of_ble_eq_true rfl, Nat.le_of_ble_eq_true rfl⟩ (Nat.le_of_ble_eq_true rfl) ⟨Nat.le_of_ble_eq_true rfl, Nat.le_of_ble_eq_true rfl⟩ dX12_readSaid_3 rfl (st := []) (fun x_393 I_394 J_395 h_396 => ?_)
  obtain ⟨rfl, rfl, rx_393, fx_393, ex_393⟩ := h_396
  have c_397 : mIsSign (40) (s_9) = x_393 := by have q := fx_393; simp only [emqx, hs_9] at q; exact q.symm
  have q_398 := hx_391
  refine g_istore_n C dX12_readSaid_6 rfl (by decide) (lo2 := [(1, .int x_393), (0, .ref x)]) rfl ?_
  refine g_bipush C (v := 18) dX12_readSaid_7 (by decide) ?_
  refine g_istore_n C dX12_readSaid_9 rfl (by decide) (lo2 := [(2, .int 18), (1, .int x_393), (0, .ref x)]) rfl ?_
  have f_399 : s_13.om = x_2 := (congrArg QT_.om hs_13).symm.trans hx_2
  refine g_lo (is := [2, 1, 0]) (lo2 := [(0, .ref x), (1, .int x_393), (2, .int 18)]) rfl ?_
  exact l_10 11 x_393 (rx_393) 18 (rg_w rc_18 (by decide) (by decide)) x_1 (rx_1) x_2 (rx_2) x_3 (rx_3) x_391 (rx_391) hx_1 hx_2 hwi hx_3 hx_391 (by simp only [mSaid_k7, mSd0, mSd1, mSd2, mBadQ, evqx, hs_5, ezqx, hs_7, emqx, hs_9, enqx, hs_12, eqqx, hs_13, hx_1, hx_2, hx_3, hx_391, f_392, c_397, if_true, if_false, mqM_tp, mqM_size, mqM_limit, mqM_to, mqM_frm, mqM_kind, mqM_number, mqM_sign, mqM_word, MT_.w_tp, MT_.w_size, MT_.w_limit, MT_.w_to, MT_.w_frm, MT_.w_kind, MT_.w_number, MT_.w_sign, MT_.w_word, nqM_rd, nqM_rn, nqM_taped, nqM_mfault, nqM_mplace, nqM_told, nqM_hl, nqM_hd, NR_.w_rd, NR_.w_rn, NR_.w_taped, NR_.w_mfault, NR_.w_mplace, NR_.w_told, NR_.w_hl, NR_.w_hd, qqM_om, QT_.w_om, vqM_nv, NV_.w_nv, zqM_nw, NW_.w_nw]) ⟨by omega, by omega⟩ (ms_s (a := 18) (b := 28) (N := 11) (rg_w rc_18 (by decide) (by decide)) (by decide))
set_option maxRecDepth 100000 in
set_option maxHeartbeats 8000000 in
theorem c_X12_readAnd_1 {l : Launch} {D : va_G} {cy : Nat → ClassId} {L : List Nat} {κ ln : Nat → Nat} {R : Nat → Nat → Option Nat} {I : Nat → Nat → Int32} {J : Nat → Nat → Int64} {ow : Nat → Nat × Nat} (W9 : ∀ a ∈ L, Shp L κ ln R ow a) {x : Nat} (hLx : x ∈ L) (hkx : κ x = 12) (hU : Iw L κ R ow I) (hn : (I x 47).toInt ≤ 2 * (I x 48).toInt) (hwi : I x 49 = 1) : CtI l yX12_readAnd cX12_readAnd 2 (some .boolean) { frames := 32, cells := 0, slots := 0, locals := 687 } D cy L κ ln R I J [.ref x] (fun r I2 J2 => Iw L κ R ow I2 ∧ Fq L κ ow [1205, 1206, 1207, 1208, 1209, 1210, 1211, 1213, 1247, 1248, 1249, 1250, 86600] I I2 ∧ Fq L κ ow [1212] J J2 ∧ Rg 0 1 r ∧ ((r, MTf R I2 J2 x, NRf R I2 J2 x, QTf R I2 J2 x) = mAndK 7 (NVf R I J x) (NWf R I J x) (MTf R I J x) (NRf R I J x) (QTf R I J x)) ∧ (¬ r = 0 → Sz_ x I I2 1) ∧ (I2 x 49 = 1)) := by
  obtain ⟨x_1, hx_1, rx_1⟩ := ex_getw (I := I) (a := x) (j := 47) (lo := 0) (hi := 60) hU.1 hLx (ro_o hkx (by decide)) rfl
  obtain ⟨x_2, hx_2, rx_2⟩ := ex_getw (I := I) (a := x) (j := 48) (lo := 0) (hi := 20) hU.1 hLx (ro_o hkx (by decide)) rfl
  rw [hx_1, hx_2] at hn
  obtain ⟨x_3, hx_3, rx_3⟩ := ex_getw (I := I) (a := x) (j := 50) (lo := 0) (hi := 59) hU.1 hLx (ro_o hkx (by decide)) rfl
  refine CtI.of (by decide +kernel) (Nat.le_of_ble_eq_true rfl) ?_
  intro p e s m below meth c B K
  have C := B.1
  have hF : Fq L κ ow [1205, 1206, 1207, 1208, 1209, 1210, 1211, 1213, 1247, 1248, 1249, 1250, 86600] I I := fq_rf
  have hG : Fq L κ ow [1212] J J := fq_rf
  obtain ⟨b_4, hb_4, hb_4L, hb_4k, hb_4n, hb_4o⟩ := shp_a (W9 x hLx) hkx 19 15 13 rfl (by decide)
  have evqx : ∀ I J, NVf R I J x = NVq I J x b_4 := fun I J => by simp only [NVf, rr_, Option.getD_some, hb_4]
  have wvqx : vqw_ L κ ow x b_4 := ⟨⟨hLx, hb_4L⟩, ⟨(ro_o hkx (by decide)), (ro_a hb_4k (by decide) hb_4o hkx rfl)⟩⟩
  obtain ⟨s_5, hs_5⟩ : ∃ z, NVq I J x b_4 = z := ⟨_, rfl⟩
  obtain ⟨b_6, hb_6, hb_6L, hb_6k, hb_6n, hb_6o⟩ := shp_a (W9 x hLx) hkx 14 14 389 rfl (by decide)
  have ezqx : ∀ I J, NWf R I J x = NWq I J x b_6 := fun I J => by simp only [NWf, rr_, Option.getD_some, hb_6]
  have wzqx : zqw_ L κ ow x b_6 := ⟨⟨hLx, hb_6L⟩, ⟨(ro_o hkx (by decide)), (ro_a hb_6k (by decide) hb_6o hkx rfl)⟩⟩
  obtain ⟨s_7, hs_7⟩ : ∃ z, NWq I J x b_6 = z := ⟨_, rfl⟩
  obtain ⟨b_8, hb_8, hb_8L, hb_8k, hb_8n, hb_8o⟩ := shp_a (W9 x hLx) hkx 1 14 940 rfl (by decide)
  have emqx : ∀ I J, MTf R I J x = MTq I J x b_8 := fun I J => by simp only [MTf, rr_, Option.getD_some, hb_8]
  have wmqx : mqw_ L κ ow x b_8 := ⟨⟨hLx, hb_8L⟩, ⟨(ro_o hkx (by decide)), (ro_a hb_8k (by decide) hb_8o hkx rfl)⟩⟩
  obtain ⟨s_9, hs_9⟩ : ∃ z, MTq I J x b_8 = z := ⟨_, rfl⟩
  obtain ⟨b_10, hb_10, hb_10L, hb_10k, hb_10n, hb_10o⟩ := shp_a (W9 x hLx) hkx 15 14 72 rfl (by decide)
  obtain ⟨b_11, hb_11, hb_11L, hb_11k, hb_11n, hb_11o⟩ := shp_a (W9 x hLx) hkx 20 15 13 rfl (by decide)
  have enqx : ∀ I J, NRf R I J x = NRq I J x b_10 b_11 := fun I J => by simp only [NRf, rr_, Option.getD_some, hb_10, hb_11]
  have wnqx : nqw_ L κ ow x b_10 b_11 := ⟨⟨hLx, hb_10L, hb_11L⟩, ⟨(ro_o hkx (by decide)), (ro_a hb_10k (by decide) hb_10o hkx rfl), (ro_a hb_11k (by decide) hb_11o hkx rfl)⟩⟩
  obtain ⟨s_12, hs_12⟩ : ∃ z, NRq I J x b_10 b_11 = z := ⟨_, rfl⟩
  have eqqx : ∀ I J, QTf R I J x = QTq I J x := fun I J => by simp only [QTf, rr_, Option.getD_some]
  have wqqx : qqw_ L κ ow x := ⟨hLx, (ro_o hkx (by decide))⟩
  obtain ⟨s_13, hs_13⟩ : ∃ z, QTq I J x = z := ⟨_, rfl⟩
  refine g_lo (is := [0]) (lo2 := [(0, .ref x)]) rfl ?_
  have l_14 : ∀ (n_14 : Nat) (I_14 : Nat → Nat → Int32) (J_15 : Nat → Nat → Int64) (hU_16 : Iw L κ R ow I_14) (hF_17 : Fq L κ ow [1205, 1206, 1207, 1208, 1209, 1210, 1211, 1213, 1247, 1248, 1249, 1250, 86600] I I_14) (hG_18 : Fq L κ ow [1212] J J_15) (v_19 : Int32) (rv_19 : Rg 0 59 v_19) (v_20 : Int32) (rv_20 : Rg 0 60 v_20) (v_21 : Int32) (rv_21 : Rg 0 20 v_21) (v_22 : Int32) (rv_22 : Rg 0 59 v_22) (q_23 : I_14 x 47 = v_20) (q_24 : I_14 x 48 = v_21) (q_25 : I_14 x 49 = 1) (q_26 : I_14 x 50 = v_22) (hq_27 : mLp (mSaid 7 (NVq I_14 J_15 x b_4) (NWq I_14 J_15 x b_6)) 17 n_14 (MTq I_14 J_15 x b_8) (NRq I_14 J_15 x b_10 b_11) (QTq I_14 J_15 x) = mAndK 7 s_5 s_7 s_9 s_12 s_13) (hj_28 : x_1.toInt ≤ v_20.toInt ∧ x_2.toInt + 1 ≤ v_21.toInt ∧ 2 * x_2.toInt - x_1.toInt + 1 ≤ 2 * v_21.toInt - v_20.toInt ∧ v_19.toInt < v_20.toInt) (hm_29 : 20 < v_21.toInt + (n_14 : Int)), WG p l e { frames := 32, cells := 0, slots := 0, locals := 687 } s m ([.ref x] : List Value).toArray below meth c 2 0 0 (MQ below (Qi_ D cy L κ ln R (fun r I2 J2 => Iw L κ R ow I2 ∧ Fq L κ ow [1205, 1206, 1207, 1208, 1209, 1210, 1211, 1213, 1247, 1248, 1249, 1250, 86600] I I2 ∧ Fq L κ ow [1212] J J2 ∧ Rg 0 1 r ∧ ((r, MTf R I2 J2 x, NRf R I2 J2 x, QTf R I2 J2 x) = mAndK 7 (NVf R I J x) (NWf R I J x) (MTf R I J x) (NRf R I J x) (QTf R I J x)) ∧ (¬ r = 0 → Sz_ x I I2 1) ∧ (I2 x 49 = 1))) ([.ref x] : List Value).toArray s 0 0 (Al_ L)) D cy (Al_ L) s.heap L κ ln R I_14 J_15 14 [(0, .ref x), (1, .int v_19)] [] := by
    intro n_14
    induction n_14 with
    | zero =>
      intro I_14 J_15 hU_16 hF_17 hG_18 v_19 rv_19 v_20 rv_20 v_21 rv_21 v_22 rv_22 q_23 q_24 q_25 q_26 hq_27 hj_28 hm_29
      exact absurd hm_29 (by have := (rv_21).2; omega)
    | succ n_14 ih_14 =>
      intro I_14 J_15 hU_16 hF_17 hG_18 v_19 rv_19 v_20 rv_20 v_21 rv_21 v_22 rv_22 q_23 q_24 q_25 q_26 hq_27 hj_28 hm_29
      obtain ⟨s_30, hs_30⟩ : ∃ z, NVq I_14 J_15 x b_4 = z := ⟨_, rfl⟩
      obtain ⟨s_31, hs_31⟩ : ∃ z, NWq I_14 J_15 x b_6 = z := ⟨_, rfl⟩
      obtain ⟨s_32, hs_32⟩ : ∃ z, MTq I_14 J_15 x b_8 = z := ⟨_, rfl⟩
      obtain ⟨s_33, hs_33⟩ : ∃ z, NRq I_14 J_15 x b_10 b_11 = z := ⟨_, rfl⟩
      obtain ⟨s_34, hs_34⟩ : ∃ z, QTq I_14 J_15 x = z := ⟨_, rfl⟩
      simp only [hs_30, hs_31, hs_32, hs_33, hs_34] at hq_27
      have hQ_35 := hq_27.symm
      have u_36 := mLp_eq (rd := mSaid 7 s_30 s_31) (k := 17) (f := n_14) (m := s_32) (n := s_33) (q := s_34)
      refine g_aload_n C 0 dX12_readAnd_14 rfl rfl ?_
      refine g_bipush C (v := 17) dX12_readAnd_15 (by decide) ?_
      refine g_callVI C K (c_X12_isWord W9 hLx hkx 17 (rg_w rc_17 (by decide) (by decide)) hU_16) hLx hkx (by decide) rfl v_12_191 rfl ⟨rfl, rfl⟩ ⟨Nat.le_of_ble_eq_true rfl, Nat.le_of_ble_eq_true rfl⟩ (Nat.le_of_ble_eq_true rfl) ⟨Nat.le_of_ble_eq_true rfl, Nat.le_of_ble_eq_true rfl⟩ dX12_readAnd_17 rfl (st := []) (fun x_37 I_38 J_39 h_40 => ?_)
      obtain ⟨rfl, rfl, rx_37, fx_37⟩ := h_40
      have c_41 : mIsWord (17) (s_32) = x_37 := by have q := fx_37; simp only [emqx, hs_32] at q; exact q.symm
      refine g_if_eq C (tgt := 51) dX12_readAnd_20 (by decide) (fun h_42 => ?_) (fun h_42 => ?_)
      · skip
        have r_43 := (⟨(rx_37).1, (eq_rg (h_42) rc_0).2⟩ : Rg 0 0 x_37)
        refine g_aload_n C 0 dX12_readAnd_51 rfl rfl ?_
        refine g_iload_n C 1 dX12_readAnd_52 rfl rfl ?_
        refine h_putI C K hLx hkx f_12_386 p_12_50 dX12_readAnd_53 (fun I_44 hI_44 => ?_)
        have hU_45 := iw_put W9 hU_16 hI_44 (ro_o hkx (by decide)) (lo := 0) (hi := 59) (rfl) (rv_19) rfl
        have hF_46 := fq_puto hF_17 hI_44 hkx (by decide) (by decide)
        have hs_47 : NVq I_44 J_15 x b_4 = s_30 := by rw [hI_44]; exact (vq_oI wvqx (ro_o hkx (by decide)) (by decide)).trans hs_30
        have hs_48 : NWq I_44 J_15 x b_6 = s_31 := by rw [hI_44]; exact (zq_oI wzqx (ro_o hkx (by decide)) (by decide)).trans hs_31
        have hs_49 : MTq I_44 J_15 x b_8 = s_32 := by rw [hI_44]; exact (mq_uIt wmqx (by decide)).trans hs_32
        have hs_50 : NRq I_44 J_15 x b_10 b_11 = s_33 := by rw [hI_44]; exact (nq_uIt wnqx (by decide)).trans hs_33
        have hs_51 : QTq I_44 J_15 x = s_34 := by rw [hI_44]; exact (qq_uIt wqqx (by decide)).trans hs_34
        refine g_iconst C (v := 1) dX12_readAnd_56 (by decide) ?_
        have f_52 : s_34.om = v_21 := (congrArg QT_.om hs_51).symm.trans (kp_j hI_44 (by decide) q_24)
        exact g_zret (ty := .boolean) (r := 1) B K rfl (rfl) ⟨hU_45, hF_46, hG_18, rg_w rc_1 (by decide) (by decide), (by (try simp only [c_41, (eq_true h_42), if_true, if_false, mqM_tp, mqM_size, mqM_limit, mqM_to, mqM_frm, mqM_kind, mqM_number, mqM_sign, mqM_word, MT_.w_tp, MT_.w_size, MT_.w_limit, MT_.w_to, MT_.w_frm, MT_.w_kind, MT_.w_number, MT_.w_sign, MT_.w_word, nqM_rd, nqM_rn, nqM_taped, nqM_mfault, nqM_mplace, nqM_told, nqM_hl, nqM_hd, NR_.w_rd, NR_.w_rn, NR_.w_taped, NR_.w_mfault, NR_.w_mplace, NR_.w_told, NR_.w_hl, NR_.w_hd, qqM_om, QT_.w_om, vqM_nv, NV_.w_nv, zqM_nw, NW_.w_nw] at hQ_35); (try simp only [c_41, (eq_true h_42), if_true, if_false, mqM_tp, mqM_size, mqM_limit, mqM_to, mqM_frm, mqM_kind, mqM_number, mqM_sign, mqM_word, MT_.w_tp, MT_.w_size, MT_.w_limit, MT_.w_to, MT_.w_frm, MT_.w_kind, MT_.w_number, MT_.w_sign, MT_.w_word, nqM_rd, nqM_rn, nqM_taped, nqM_mfault, nqM_mplace, nqM_told, nqM_hl, nqM_hd, NR_.w_rd, NR_.w_rn, NR_.w_taped, NR_.w_mfault, NR_.w_mplace, NR_.w_told, NR_.w_hl, NR_.w_hd, qqM_om, QT_.w_om, vqM_nv, NV_.w_nv, zqM_nw, NW_.w_nw] at u_36); simp only [evqx, hs_47, hs_5, ezqx, hs_48, hs_7, emqx, hs_49, hs_9, enqx, hs_50, hs_12, eqqx, hs_51, hs_13, hQ_35, u_36, c_41, (eq_true h_42), if_true, if_false, mqM_tp, mqM_size, mqM_limit, mqM_to, mqM_frm, mqM_kind, mqM_number, mqM_sign, mqM_word, MT_.w_tp, MT_.w_size, MT_.w_limit, MT_.w_to, MT_.w_frm, MT_.w_kind, MT_.w_number, MT_.w_sign, MT_.w_word, nqM_rd, nqM_rn, nqM_taped, nqM_mfault, nqM_mplace, nqM_told, nqM_hl, nqM_hd, NR_.w_rd, NR_.w_rn, NR_.w_taped, NR_.w_mfault, NR_.w_mplace, NR_.w_told, NR_.w_hl, NR_.w_hd, qqM_om, QT_.w_om, vqM_nv, NV_.w_nv, zqM_nw, NW_.w_nw]), (fun _ => (sz_m hx_1 hx_2 (kp_j hI_44 (by decide) q_23) (kp_j hI_44 (by decide) q_24) (kp_s hI_44) ⟨by omega, by omega, by omega, by omega⟩)), (kp_j hI_44 (by decide) q_25)⟩ dX12_readAnd_57
      · skip
        have n_53 : ¬ x_37 = 0 := h_42
        have r_54 := ne_lo (lo := 1) n_53 rx_37 rc_0 rfl (by decide)
        refine g_aload_n C 0 dX12_readAnd_23 rfl rfl ?_
        refine g_callVV C K (c_X12_go W9 hLx hkx   hU_16) hLx hkx (by decide) rfl v_12_156 rfl ⟨rfl, rfl⟩ ⟨Nat.le_of_ble_eq_true rfl, Nat.le_of_ble_eq_true rfl⟩ (Nat.le_of_ble_eq_true rfl) ⟨Nat.le_of_ble_eq_true rfl, Nat.le_of_ble_eq_true rfl⟩ dX12_readAnd_24 rfl (st := []) (fun I_56 J_57 h_58 => ?_)
        obtain ⟨hUI_56, hFI_56, hGJ_57, fx_55, ex_55⟩ := h_58
        have hF_59 := fq_tr hF_17 hFI_56 (by decide)
        have hG_60 := fq_tr hG_18 hGJ_57 (by decide)
        obtain ⟨s_62, hs_62⟩ : ∃ z, MTq I_56 J_57 x b_8 = z := ⟨_, rfl⟩
        have c_61 : mGo (s_32) = s_62 := by have q := fx_55; simp only [emqx, hs_32, hs_62] at q; exact q.symm
        have hs_63 : NVq I_56 J_57 x b_4 = s_30 := (vq_fq wvqx hFI_56 hGJ_57 (by decide) (by decide)).trans hs_30
        have hs_64 : NWq I_56 J_57 x b_6 = s_31 := (zq_fq wzqx hFI_56 hGJ_57 (by decide) (by decide)).trans hs_31
        have hs_65 : NRq I_56 J_57 x b_10 b_11 = s_33 := (nq_fq wnqx hFI_56 hGJ_57 (by decide) (by decide)).trans hs_33
        have hs_66 : QTq I_56 J_57 x = s_34 := (qq_fq wqqx hFI_56 hGJ_57 (by decide) (by decide)).trans hs_34
        refine g_aload_n C 0 dX12_readAnd_27 rfl rfl ?_
        have f_67 : s_34.om = v_21 := (congrArg QT_.om hs_66).symm.trans (fq_at hFI_56 hLx hkx (by decide) (by decide) q_24)
        refine g_callVI C K (c_X12_readSaid_1 W9 hLx hkx   hUI_56  (by rw [(fq_at hFI_56 hLx hkx (by decide) (by decide) q_23), (fq_at hFI_56 hLx hkx (by decide) (by decide) q_24)]; omega) ((fq_at hFI_56 hLx hkx (by decide) (by decide) q_25))) hLx hkx (by decide) rfl v_12_392 rfl ⟨rfl, rfl⟩ ⟨Nat.le_of_ble_eq_true rfl, Nat.le_of_ble_eq_true rfl⟩ (Nat.le_of_ble_eq_true rfl) ⟨Nat.le_of_ble_eq_true rfl, Nat.le_of_ble_eq_true rfl⟩ dX12_readAnd_28 rfl (st := []) (fun x_68 I_69 J_70 h_71 => ?_)
        obtain ⟨hUI_69, hFI_69, hGJ_70, rx_68, fx_68, ex_68⟩ := h_71
        have hF_72 := fq_tr hF_59 hFI_69 (by decide)
        have hG_73 := fq_tr hG_60 hGJ_70 (by decide)
        obtain ⟨s_75, hs_75⟩ : ∃ z, MTq I_69 J_70 x b_8 = z := ⟨_, rfl⟩
        obtain ⟨s_76, hs_76⟩ : ∃ z, NRq I_69 J_70 x b_10 b_11 = z := ⟨_, rfl⟩
        obtain ⟨s_77, hs_77⟩ : ∃ z, QTq I_69 J_70 x = z := ⟨_, rfl⟩
        have c_74 : mSaid 7 (s_30) (s_31) (s_62) (s_33) (s_34) = (x_68, s_75, s_76, s_77) := by have q := fx_68; simp only [evqx, ezqx, emqx, enqx, eqqx, hs_63, hs_64, hs_62, hs_65, hs_66, hs_75, hs_76, hs_77] at q; exact q.symm
        have hs_78 : NVq I_69 J_70 x b_4 = s_30 := (vq_fq wvqx hFI_69 hGJ_70 (by decide) (by decide)).trans hs_63
        have hs_79 : NWq I_69 J_70 x b_6 = s_31 := (zq_fq wzqx hFI_69 hGJ_70 (by decide) (by decide)).trans hs_64
        obtain ⟨x_80, hx_80, rx_80⟩ := ex_getw (I := I_69) (a := x) (j := 47) (lo := 0) (hi := 60) hUI_69.1 hLx (ro_o hkx (by decide)) rfl
        obtain ⟨x_81, hx_81, rx_81⟩ := ex_getw (I := I_69) (a := x) (j := 50) (lo := 0) (hi := 59) hUI_69.1 hLx (ro_o hkx (by decide)) rfl
        obtain ⟨x_82, hx_82, rx_82⟩ := ex_getw (I := I_69) (a := x) (j := 48) (lo := 0) (hi := 20) hUI_69.1 hLx (ro_o hkx (by decide)) rfl
        have f_83 : s_77.om = x_82 := (congrArg QT_.om hs_77).symm.trans hx_82
        refine g_if_ne C (tgt := 36) dX12_readAnd_31 (by decide) (fun h_84 => ?_) (fun h_84 => ?_)
        · skip
          have n_85 : ¬ x_68 = 0 := h_84
          have r_86 := ne_lo (lo := 1) n_85 rx_68 rc_0 rfl (by decide)
          have f_87 := sz_v (fq_at hFI_56 hLx hkx (by decide) (by decide) q_23) (fq_at hFI_56 hLx hkx (by decide) (by decide) q_24) hx_80 hx_82 hx_81 (ex_68.1 n_85)
          refine g_aload_n C 0 dX12_readAnd_36 rfl rfl ?_
          refine g_iconst C (v := 2) dX12_readAnd_37 (by decide) ?_
          refine g_iload_n C 1 dX12_readAnd_38 rfl rfl ?_
          refine g_aload_n C 0 dX12_readAnd_39 rfl rfl ?_
          refine g_getI C K hLx hkx f_12_386 (v := x_81) hx_81 dX12_readAnd_40 ?_
          refine g_iconst C (v := 0) dX12_readAnd_43 (by decide) ?_
          have r_88 := (show Rg 0 59 x_80 from by have q1 := rx_80; have q2 := rx_82; unfold Rg at *; omega)
          refine g_callVI C K (c_X12_saysOne W9 hLx hkx 2 v_19 x_81 0 (rg_w rc_2 (by decide) (by decide)) (rv_19) (rg_w rx_81 (by decide) (by decide)) hUI_69  (eq_rg hx_80 (r_88)) (by rw [hx_80]; exact ⟨fun _ => ⟨by have := (rv_19).1; omega, by omega⟩, fun _ => ⟨by have := (rx_81).1; omega, by omega⟩, fun q => absurd q (by decide)⟩)) hLx hkx (by decide) rfl v_12_389 rfl ⟨rfl, rfl⟩ ⟨Nat.le_of_ble_eq_true rfl, Nat.le_of_ble_eq_true rfl⟩ (Nat.le_of_ble_eq_true rfl) ⟨Nat.le_of_ble_eq_true rfl, Nat.le_of_ble_eq_true rfl⟩ dX12_readAnd_44 rfl (st := []) (fun x_89 I_90 J_91 h_92 => ?_)
          obtain ⟨hUI_90, hFI_90, hGJ_91, rx_89, ex_89⟩ := h_92
          have hF_93 := fq_tr hF_72 hFI_90 (by decide)
          have hG_94 := fq_tr hG_73 hGJ_91 (by decide)
          have hs_95 : NVq I_90 J_91 x b_4 = s_30 := (vq_fq wvqx hFI_90 hGJ_91 (by decide) (by decide)).trans hs_78
          have hs_96 : NWq I_90 J_91 x b_6 = s_31 := (zq_fq wzqx hFI_90 hGJ_91 (by decide) (by decide)).trans hs_79
          have hs_97 : MTq I_90 J_91 x b_8 = s_75 := (mq_fq wmqx hFI_90 hGJ_91 (by decide) (by decide)).trans hs_75
          have hs_98 : NRq I_90 J_91 x b_10 b_11 = s_76 := (nq_fq wnqx hFI_90 hGJ_91 (by decide) (by decide)).trans hs_76
          have hs_99 : QTq I_90 J_91 x = s_77 := (qq_fq wqqx hFI_90 hGJ_91 (by decide) (by decide)).trans hs_77
          obtain ⟨x_100, hx_100, rx_100, tx_100, ux_100⟩ := sa_b (lo := 1) (hi := 60) ex_89 hx_80 r_88 (by decide) (by decide)
          have r_101 := (show Rg 0 59 x_89 from by have q1 := ux_100; have q2 := r_88; unfold Rg at *; omega)
          refine g_istore_n C dX12_readAnd_47 rfl (by decide) (lo2 := [(1, .int x_89), (0, .ref x)]) rfl ?_
          refine g_goto C (tgt := 14) dX12_readAnd_48 (by decide) ?_
          refine g_lo (is := [1, 0]) (lo2 := [(0, .ref x), (1, .int x_89)]) rfl ?_
          exact ih_14 I_90 J_91 hUI_90 hF_93 hG_94 x_89 (r_101) x_100 (rg_w rx_100 (by decide) (by decide)) x_82 (rx_82) x_81 (rx_81) hx_100 (fq_at hFI_90 hLx hkx (by decide) (by decide) hx_82) (fq_at hFI_90 hLx hkx (by decide) (by decide) ex_68.2) (fq_at hFI_90 hLx hkx (by decide) (by decide) hx_81) (by (try simp only [c_41, h_42, c_61, f_67, c_74, hx_80, hx_81, hx_82, f_83, h_84, hx_100, if_true, if_false, mqM_tp, mqM_size, mqM_limit, mqM_to, mqM_frm, mqM_kind, mqM_number, mqM_sign, mqM_word, MT_.w_tp, MT_.w_size, MT_.w_limit, MT_.w_to, MT_.w_frm, MT_.w_kind, MT_.w_number, MT_.w_sign, MT_.w_word, nqM_rd, nqM_rn, nqM_taped, nqM_mfault, nqM_mplace, nqM_told, nqM_hl, nqM_hd, NR_.w_rd, NR_.w_rn, NR_.w_taped, NR_.w_mfault, NR_.w_mplace, NR_.w_told, NR_.w_hl, NR_.w_hd, qqM_om, QT_.w_om, vqM_nv, NV_.w_nv, zqM_nw, NW_.w_nw] at hQ_35); (try simp only [c_41, h_42, c_61, f_67, c_74, hx_80, hx_81, hx_82, f_83, h_84, hx_100, if_true, if_false, mqM_tp, mqM_size, mqM_limit, mqM_to, mqM_frm, mqM_kind, mqM_number, mqM_sign, mqM_word, MT_.w_tp, MT_.w_size, MT_.w_limit, MT_.w_to, MT_.w_frm, MT_.w_kind, MT_.w_number, MT_.w_sign, MT_.w_word, nqM_rd, nqM_rn, nqM_taped, nqM_mfault, nqM_mplace, nqM_told, nqM_hl, nqM_hd, NR_.w_rd, NR_.w_rn, NR_.w_taped, NR_.w_mfault, NR_.w_mplace, NR_.w_told, NR_.w_hl, NR_.w_hd, qqM_om, QT_.w_om, vqM_nv, NV_.w_nv, zqM_nw, NW_.w_nw] at u_36); simp only [evqx, hs_95, hs_5, ezqx, hs_96, hs_7, emqx, hs_97, hs_9, enqx, hs_98, hs_12, eqqx, hs_99, hs_13, hQ_35, u_36, c_41, h_42, c_61, f_67, c_74, hx_80, hx_81, hx_82, f_83, h_84, hx_100, if_true, if_false, mqM_tp, mqM_size, mqM_limit, mqM_to, mqM_frm, mqM_kind, mqM_number, mqM_sign, mqM_word, MT_.w_tp, MT_.w_size, MT_.w_limit, MT_.w_to, MT_.w_frm, MT_.w_kind, MT_.w_number, MT_.w_sign, MT_.w_word, nqM_rd, nqM_rn, nqM_taped, nqM_mfault, nqM_mplace, nqM_told, nqM_hl, nqM_hd, NR_.w_rd, NR_.w_rn, NR_.w_taped, NR_.w_mfault, NR_.w_mplace, NR_.w_told, NR_.w_hl, NR_.w_hd, qqM_om, QT_.w_om, vqM_nv, NV_.w_nv, zqM_nw, NW_.w_nw]) ⟨by have := tx_100; omega, by have := tx_100; omega, by have := tx_100; omega, by have := tx_100; omega⟩ (by have q9 := hm_29; have := tx_100; omega)
        · skip
          have r_102 := (⟨(rx_68).1, (eq_rg (h_84) rc_0).2⟩ : Rg 0 0 x_68)
          refine g_iconst C (v := 0) dX12_readAnd_34 (by decide) ?_
          exact g_zret (ty := .boolean) (r := 0) B K rfl (rfl) ⟨hUI_69, hF_72, hG_73, rg_w rc_0 (by decide) (by decide), (by (try simp only [c_41, h_42, c_61, f_67, c_74, hx_80, hx_81, hx_82, f_83, (eq_true h_84), if_true, if_false, mqM_tp, mqM_size, mqM_limit, mqM_to, mqM_frm, mqM_kind, mqM_number, mqM_sign, mqM_word, MT_.w_tp, MT_.w_size, MT_.w_limit, MT_.w_to, MT_.w_frm, MT_.w_kind, MT_.w_number, MT_.w_sign, MT_.w_word, nqM_rd, nqM_rn, nqM_taped, nqM_mfault, nqM_mplace, nqM_told, nqM_hl, nqM_hd, NR_.w_rd, NR_.w_rn, NR_.w_taped, NR_.w_mfault, NR_.w_mplace, NR_.w_told, NR_.w_hl, NR_.w_hd, qqM_om, QT_.w_om, vqM_nv, NV_.w_nv, zqM_nw, NW_.w_nw] at hQ_35); (try simp only [c_41, h_42, c_61, f_67, c_74, hx_80, hx_81, hx_82, f_83, (eq_true h_84), if_true, if_false, mqM_tp, mqM_size, mqM_limit, mqM_to, mqM_frm, mqM_kind, mqM_number, mqM_sign, mqM_word, MT_.w_tp, MT_.w_size, MT_.w_limit, MT_.w_to, MT_.w_frm, MT_.w_kind, MT_.w_number, MT_.w_sign, MT_.w_word, nqM_rd, nqM_rn, nqM_taped, nqM_mfault, nqM_mplace, nqM_told, nqM_hl, nqM_hd, NR_.w_rd, NR_.w_rn, NR_.w_taped, NR_.w_mfault, NR_.w_mplace, NR_.w_told, NR_.w_hl, NR_.w_hd, qqM_om, QT_.w_om, vqM_nv, NV_.w_nv, zqM_nw, NW_.w_nw] at u_36); simp only [evqx, hs_78, hs_5, ezqx, hs_79, hs_7, emqx, hs_75, hs_9, enqx, hs_76, hs_12, eqqx, hs_77, hs_13, hQ_35, u_36, c_41, h_42, c_61, f_67, c_74, hx_80, hx_81, hx_82, f_83, (eq_true h_84), if_true, if_false, mqM_tp, mqM_size, mqM_limit, mqM_to, mqM_frm, mqM_kind, mqM_number, mqM_sign, mqM_word, MT_.w_tp, MT_.w_size, MT_.w_limit, MT_.w_to, MT_.w_frm, MT_.w_kind, MT_.w_number, MT_.w_sign, MT_.w_word, nqM_rd, nqM_rn, nqM_taped, nqM_mfault, nqM_mplace, nqM_told, nqM_hl, nqM_hd, NR_.w_rd, NR_.w_rn, NR_.w_taped, NR_.w_mfault, NR_.w_mplace, NR_.w_told, NR_.w_hl, NR_.w_hd, qqM_om, QT_.w_om, vqM_nv, NV_.w_nv, zqM_nw, NW_.w_nw]), (fun q => absurd rfl q), ex_68.2⟩ dX12_readAnd_35
  refine g_aload_n C 0 dX12_readAnd_0 rfl rfl ?_
  have f_103 : s_13.om = x_2 := (congrArg QT_.om hs_13).symm.trans hx_2
  refine g_callVI C K (c_X12_readSaid_1 W9 hLx hkx   hU  (by rw [hx_1, hx_2]; omega) (hwi)) hLx hkx (by decide) rfl v_12_392 rfl ⟨rfl, rfl⟩ ⟨Nat.le_of_ble_eq_true rfl, Nat.le_of_ble_eq_true rfl⟩ (Nat.le_of_ble_eq_true rfl) ⟨Nat.le_of_ble_eq_true rfl, Nat.le_of_ble_eq_true rfl⟩ dX12_readAnd_1 rfl (st := []) (fun x_104 I_105 J_106 h_107 => ?_)
  obtain ⟨hUI_105, hFI_105, hGJ_106, rx_104, fx_104, ex_104⟩ := h_107
  have hF_108 := fq_tr hF hFI_105 (by decide)
  have hG_109 := fq_tr hG hGJ_106 (by decide)
  obtain ⟨s_111, hs_111⟩ : ∃ z, MTq I_105 J_106 x b_8 = z := ⟨_, rfl⟩
  obtain ⟨s_112, hs_112⟩ : ∃ z, NRq I_105 J_106 x b_10 b_11 = z := ⟨_, rfl⟩
  obtain ⟨s_113, hs_113⟩ : ∃ z, QTq I_105 J_106 x = z := ⟨_, rfl⟩
  have c_110 : mSaid 7 (s_5) (s_7) (s_9) (s_12) (s_13) = (x_104, s_111, s_112, s_113) := by have q := fx_104; simp only [evqx, ezqx, emqx, enqx, eqqx, hs_5, hs_7, hs_9, hs_12, hs_13, hs_111, hs_112, hs_113] at q; exact q.symm
  have hs_114 : NVq I_105 J_106 x b_4 = s_5 := (vq_fq wvqx hFI_105 hGJ_106 (by decide) (by decide)).trans hs_5
  have hs_115 : NWq I_105 J_106 x b_6 = s_7 := (zq_fq wzqx hFI_105 hGJ_106 (by decide) (by decide)).trans hs_7
  obtain ⟨x_116, hx_116, rx_116⟩ := ex_getw (I := I_105) (a := x) (j := 47) (lo := 0) (hi := 60) hUI_105.1 hLx (ro_o hkx (by decide)) rfl
  obtain ⟨x_117, hx_117, rx_117⟩ := ex_getw (I := I_105) (a := x) (j := 50) (lo := 0) (hi := 59) hUI_105.1 hLx (ro_o hkx (by decide)) rfl
  obtain ⟨x_118, hx_118, rx_118⟩ := ex_getw (I := I_105) (a := x) (j := 48) (lo := 0) (hi := 20) hUI_105.1 hLx (ro_o hkx (by decide)) rfl
  have f_119 : s_113.om = x_118 := (congrArg QT_.om hs_113).symm.trans hx_118
  refine g_if_ne C (tgt := 9) dX12_readAnd_4 (by decide) (fun h_120 => ?_) (fun h_120 => ?_)
  · skip
    have n_121 : ¬ x_104 = 0 := h_120
    have r_122 := ne_lo (lo := 1) n_121 rx_104 rc_0 rfl (by decide)
    have f_123 := sz_v hx_1 hx_2 hx_116 hx_118 hx_117 (ex_104.1 n_121)
    refine g_aload_n C 0 dX12_readAnd_9 rfl rfl ?_
    refine g_getI C K hLx hkx f_12_386 (v := x_117) hx_117 dX12_readAnd_10 ?_
    refine g_istore_n C dX12_readAnd_13 rfl (by decide) (lo2 := [(1, .int x_117), (0, .ref x)]) rfl ?_
    refine g_lo (is := [1, 0]) (lo2 := [(0, .ref x), (1, .int x_117)]) rfl ?_
    exact l_14 21 I_105 J_106 hUI_105 hF_108 hG_109 x_117 (rx_117) x_116 (rx_116) x_118 (rx_118) x_117 (rx_117) hx_116 hx_118 ex_104.2 hx_117 (by simp only [mAndK, evqx, hs_114, hs_5, ezqx, hs_115, hs_7, emqx, hs_111, hs_9, enqx, hs_112, hs_12, eqqx, hs_113, hs_13, hx_1, hx_2, hx_3, f_103, c_110, hx_116, hx_117, hx_118, f_119, h_120, if_true, if_false, mqM_tp, mqM_size, mqM_limit, mqM_to, mqM_frm, mqM_kind, mqM_number, mqM_sign, mqM_word, MT_.w_tp, MT_.w_size, MT_.w_limit, MT_.w_to, MT_.w_frm, MT_.w_kind, MT_.w_number, MT_.w_sign, MT_.w_word, nqM_rd, nqM_rn, nqM_taped, nqM_mfault, nqM_mplace, nqM_told, nqM_hl, nqM_hd, NR_.w_rd, NR_.w_rn, NR_.w_taped, NR_.w_mfault, NR_.w_mplace, NR_.w_told, NR_.w_hl, NR_.w_hd, qqM_om, QT_.w_om, vqM_nv, NV_.w_nv, zqM_nw, NW_.w_nw]) ⟨by omega, by omega, by omega, by omega⟩ (by have := (rx_118).1; omega)
  · skip
    have r_124 := (⟨(rx_104).1, (eq_rg (h_120) rc_0).2⟩ : Rg 0 0 x_104)
    refine g_iconst C (v := 0) dX12_readAnd_7 (by decide) ?_
    exact g_zret (ty := .boolean) (r := 0) B K rfl (rfl) ⟨hUI_105, hF_108, hG_109, rg_w rc_0 (by decide) (by decide), (by simp only [mAndK, evqx, hs_114, hs_5, ezqx, hs_115, hs_7, emqx, hs_111, hs_9, enqx, hs_112, hs_12, eqqx, hs_113, hs_13, hx_1, hx_2, hx_3, f_103, c_110, hx_116, hx_117, hx_118, f_119, (eq_true h_120), if_true, if_false, mqM_tp, mqM_size, mqM_limit, mqM_to, mqM_frm, mqM_kind, mqM_number, mqM_sign, mqM_word, MT_.w_tp, MT_.w_size, MT_.w_limit, MT_.w_to, MT_.w_frm, MT_.w_kind, MT_.w_number, MT_.w_sign, MT_.w_word, nqM_rd, nqM_rn, nqM_taped, nqM_mfault, nqM_mplace, nqM_told, nqM_hl, nqM_hd, NR_.w_rd, NR_.w_rn, NR_.w_taped, NR_.w_mfault, NR_.w_mplace, NR_.w_told, NR_.w_hl, NR_.w_hd, qqM_om, QT_.w_om, vqM_nv, NV_.w_nv, zqM_nw, NW_.w_nw]), (fun q => absurd rfl q), ex_104.2⟩ dX12_readAnd_8
set_option maxRecDepth 100000 in
set_option maxHeartbeats 8000000 in
theorem c_X12_readOr_1 {l : Launch} {D : va_G} {cy : Nat → ClassId} {L : List Nat} {κ ln : Nat → Nat} {R : Nat → Nat → Option Nat} {I : Nat → Nat → Int32} {J : Nat → Nat → Int64} {ow : Nat → Nat × Nat} (W9 : ∀ a ∈ L, Shp L κ ln R ow a) {x : Nat} (hLx : x ∈ L) (hkx : κ x = 12) (hU : Iw L κ R ow I) (hn : (I x 47).toInt ≤ 2 * (I x 48).toInt) (hwi : I x 49 = 1) : CtI l yX12_readOr cX12_readOr 2 (some .boolean) { frames := 33, cells := 0, slots := 0, locals := 708 } D cy L κ ln R I J [.ref x] (fun r I2 J2 => Iw L κ R ow I2 ∧ Fq L κ ow [1205, 1206, 1207, 1208, 1209, 1210, 1211, 1213, 1247, 1248, 1249, 1250, 86600] I I2 ∧ Fq L κ ow [1212] J J2 ∧ Rg 0 1 r ∧ ((r, MTf R I2 J2 x, NRf R I2 J2 x, QTf R I2 J2 x) = mOrK 7 (NVf R I J x) (NWf R I J x) (MTf R I J x) (NRf R I J x) (QTf R I J x)) ∧ (¬ r = 0 → Sz_ x I I2 1) ∧ (I2 x 49 = 1)) := by
  obtain ⟨x_1, hx_1, rx_1⟩ := ex_getw (I := I) (a := x) (j := 47) (lo := 0) (hi := 60) hU.1 hLx (ro_o hkx (by decide)) rfl
  obtain ⟨x_2, hx_2, rx_2⟩ := ex_getw (I := I) (a := x) (j := 48) (lo := 0) (hi := 20) hU.1 hLx (ro_o hkx (by decide)) rfl
  rw [hx_1, hx_2] at hn
  obtain ⟨x_3, hx_3, rx_3⟩ := ex_getw (I := I) (a := x) (j := 50) (lo := 0) (hi := 59) hU.1 hLx (ro_o hkx (by decide)) rfl
  refine CtI.of (by decide +kernel) (Nat.le_of_ble_eq_true rfl) ?_
  intro p e s m below meth c B K
  have C := B.1
  have hF : Fq L κ ow [1205, 1206, 1207, 1208, 1209, 1210, 1211, 1213, 1247, 1248, 1249, 1250, 86600] I I := fq_rf
  have hG : Fq L κ ow [1212] J J := fq_rf
  obtain ⟨b_4, hb_4, hb_4L, hb_4k, hb_4n, hb_4o⟩ := shp_a (W9 x hLx) hkx 19 15 13 rfl (by decide)
  have evqx : ∀ I J, NVf R I J x = NVq I J x b_4 := fun I J => by simp only [NVf, rr_, Option.getD_some, hb_4]
  have wvqx : vqw_ L κ ow x b_4 := ⟨⟨hLx, hb_4L⟩, ⟨(ro_o hkx (by decide)), (ro_a hb_4k (by decide) hb_4o hkx rfl)⟩⟩
  obtain ⟨s_5, hs_5⟩ : ∃ z, NVq I J x b_4 = z := ⟨_, rfl⟩
  obtain ⟨b_6, hb_6, hb_6L, hb_6k, hb_6n, hb_6o⟩ := shp_a (W9 x hLx) hkx 14 14 389 rfl (by decide)
  have ezqx : ∀ I J, NWf R I J x = NWq I J x b_6 := fun I J => by simp only [NWf, rr_, Option.getD_some, hb_6]
  have wzqx : zqw_ L κ ow x b_6 := ⟨⟨hLx, hb_6L⟩, ⟨(ro_o hkx (by decide)), (ro_a hb_6k (by decide) hb_6o hkx rfl)⟩⟩
  obtain ⟨s_7, hs_7⟩ : ∃ z, NWq I J x b_6 = z := ⟨_, rfl⟩
  obtain ⟨b_8, hb_8, hb_8L, hb_8k, hb_8n, hb_8o⟩ := shp_a (W9 x hLx) hkx 1 14 940 rfl (by decide)
  have emqx : ∀ I J, MTf R I J x = MTq I J x b_8 := fun I J => by simp only [MTf, rr_, Option.getD_some, hb_8]
  have wmqx : mqw_ L κ ow x b_8 := ⟨⟨hLx, hb_8L⟩, ⟨(ro_o hkx (by decide)), (ro_a hb_8k (by decide) hb_8o hkx rfl)⟩⟩
  obtain ⟨s_9, hs_9⟩ : ∃ z, MTq I J x b_8 = z := ⟨_, rfl⟩
  obtain ⟨b_10, hb_10, hb_10L, hb_10k, hb_10n, hb_10o⟩ := shp_a (W9 x hLx) hkx 15 14 72 rfl (by decide)
  obtain ⟨b_11, hb_11, hb_11L, hb_11k, hb_11n, hb_11o⟩ := shp_a (W9 x hLx) hkx 20 15 13 rfl (by decide)
  have enqx : ∀ I J, NRf R I J x = NRq I J x b_10 b_11 := fun I J => by simp only [NRf, rr_, Option.getD_some, hb_10, hb_11]
  have wnqx : nqw_ L κ ow x b_10 b_11 := ⟨⟨hLx, hb_10L, hb_11L⟩, ⟨(ro_o hkx (by decide)), (ro_a hb_10k (by decide) hb_10o hkx rfl), (ro_a hb_11k (by decide) hb_11o hkx rfl)⟩⟩
  obtain ⟨s_12, hs_12⟩ : ∃ z, NRq I J x b_10 b_11 = z := ⟨_, rfl⟩
  have eqqx : ∀ I J, QTf R I J x = QTq I J x := fun I J => by simp only [QTf, rr_, Option.getD_some]
  have wqqx : qqw_ L κ ow x := ⟨hLx, (ro_o hkx (by decide))⟩
  obtain ⟨s_13, hs_13⟩ : ∃ z, QTq I J x = z := ⟨_, rfl⟩
  refine g_lo (is := [0]) (lo2 := [(0, .ref x)]) rfl ?_
  have l_14 : ∀ (n_14 : Nat) (I_14 : Nat → Nat → Int32) (J_15 : Nat → Nat → Int64) (hU_16 : Iw L κ R ow I_14) (hF_17 : Fq L κ ow [1205, 1206, 1207, 1208, 1209, 1210, 1211, 1213, 1247, 1248, 1249, 1250, 86600] I I_14) (hG_18 : Fq L κ ow [1212] J J_15) (v_19 : Int32) (rv_19 : Rg 0 59 v_19) (v_20 : Int32) (rv_20 : Rg 0 60 v_20) (v_21 : Int32) (rv_21 : Rg 0 20 v_21) (v_22 : Int32) (rv_22 : Rg 0 59 v_22) (q_23 : I_14 x 47 = v_20) (q_24 : I_14 x 48 = v_21) (q_25 : I_14 x 49 = 1) (q_26 : I_14 x 50 = v_22) (hq_27 : mLp (mAndK 7 (NVq I_14 J_15 x b_4) (NWq I_14 J_15 x b_6)) 16 n_14 (MTq I_14 J_15 x b_8) (NRq I_14 J_15 x b_10 b_11) (QTq I_14 J_15 x) = mOrK 7 s_5 s_7 s_9 s_12 s_13) (hj_28 : x_1.toInt ≤ v_20.toInt ∧ x_2.toInt + 1 ≤ v_21.toInt ∧ 2 * x_2.toInt - x_1.toInt + 1 ≤ 2 * v_21.toInt - v_20.toInt ∧ v_19.toInt < v_20.toInt) (hm_29 : 20 < v_21.toInt + (n_14 : Int)), WG p l e { frames := 33, cells := 0, slots := 0, locals := 708 } s m ([.ref x] : List Value).toArray below meth c 2 0 0 (MQ below (Qi_ D cy L κ ln R (fun r I2 J2 => Iw L κ R ow I2 ∧ Fq L κ ow [1205, 1206, 1207, 1208, 1209, 1210, 1211, 1213, 1247, 1248, 1249, 1250, 86600] I I2 ∧ Fq L κ ow [1212] J J2 ∧ Rg 0 1 r ∧ ((r, MTf R I2 J2 x, NRf R I2 J2 x, QTf R I2 J2 x) = mOrK 7 (NVf R I J x) (NWf R I J x) (MTf R I J x) (NRf R I J x) (QTf R I J x)) ∧ (¬ r = 0 → Sz_ x I I2 1) ∧ (I2 x 49 = 1))) ([.ref x] : List Value).toArray s 0 0 (Al_ L)) D cy (Al_ L) s.heap L κ ln R I_14 J_15 14 [(0, .ref x), (1, .int v_19)] [] := by
    intro n_14
    induction n_14 with
    | zero =>
      intro I_14 J_15 hU_16 hF_17 hG_18 v_19 rv_19 v_20 rv_20 v_21 rv_21 v_22 rv_22 q_23 q_24 q_25 q_26 hq_27 hj_28 hm_29
      exact absurd hm_29 (by have := (rv_21).2; omega)
    | succ n_14 ih_14 =>
      intro I_14 J_15 hU_16 hF_17 hG_18 v_19 rv_19 v_20 rv_20 v_21 rv_21 v_22 rv_22 q_23 q_24 q_25 q_26 hq_27 hj_28 hm_29
      obtain ⟨s_30, hs_30⟩ : ∃ z, NVq I_14 J_15 x b_4 = z := ⟨_, rfl⟩
      obtain ⟨s_31, hs_31⟩ : ∃ z, NWq I_14 J_15 x b_6 = z := ⟨_, rfl⟩
      obtain ⟨s_32, hs_32⟩ : ∃ z, MTq I_14 J_15 x b_8 = z := ⟨_, rfl⟩
      obtain ⟨s_33, hs_33⟩ : ∃ z, NRq I_14 J_15 x b_10 b_11 = z := ⟨_, rfl⟩
      obtain ⟨s_34, hs_34⟩ : ∃ z, QTq I_14 J_15 x = z := ⟨_, rfl⟩
      simp only [hs_30, hs_31, hs_32, hs_33, hs_34] at hq_27
      have hQ_35 := hq_27.symm
      have u_36 := mLp_eq (rd := mAndK 7 s_30 s_31) (k := 16) (f := n_14) (m := s_32) (n := s_33) (q := s_34)
      refine g_aload_n C 0 dX12_readOr_14 rfl rfl ?_
      refine g_bipush C (v := 16) dX12_readOr_15 (by decide) ?_
      refine g_callVI C K (c_X12_isWord W9 hLx hkx 16 (rg_w rc_16 (by decide) (by decide)) hU_16) hLx hkx (by decide) rfl v_12_191 rfl ⟨rfl, rfl⟩ ⟨Nat.le_of_ble_eq_true rfl, Nat.le_of_ble_eq_true rfl⟩ (Nat.le_of_ble_eq_true rfl) ⟨Nat.le_of_ble_eq_true rfl, Nat.le_of_ble_eq_true rfl⟩ dX12_readOr_17 rfl (st := []) (fun x_37 I_38 J_39 h_40 => ?_)
      obtain ⟨rfl, rfl, rx_37, fx_37⟩ := h_40
      have c_41 : mIsWord (16) (s_32) = x_37 := by have q := fx_37; simp only [emqx, hs_32] at q; exact q.symm
      refine g_if_eq C (tgt := 51) dX12_readOr_20 (by decide) (fun h_42 => ?_) (fun h_42 => ?_)
      · skip
        have r_43 := (⟨(rx_37).1, (eq_rg (h_42) rc_0).2⟩ : Rg 0 0 x_37)
        refine g_aload_n C 0 dX12_readOr_51 rfl rfl ?_
        refine g_iload_n C 1 dX12_readOr_52 rfl rfl ?_
        refine h_putI C K hLx hkx f_12_386 p_12_50 dX12_readOr_53 (fun I_44 hI_44 => ?_)
        have hU_45 := iw_put W9 hU_16 hI_44 (ro_o hkx (by decide)) (lo := 0) (hi := 59) (rfl) (rv_19) rfl
        have hF_46 := fq_puto hF_17 hI_44 hkx (by decide) (by decide)
        have hs_47 : NVq I_44 J_15 x b_4 = s_30 := by rw [hI_44]; exact (vq_oI wvqx (ro_o hkx (by decide)) (by decide)).trans hs_30
        have hs_48 : NWq I_44 J_15 x b_6 = s_31 := by rw [hI_44]; exact (zq_oI wzqx (ro_o hkx (by decide)) (by decide)).trans hs_31
        have hs_49 : MTq I_44 J_15 x b_8 = s_32 := by rw [hI_44]; exact (mq_uIt wmqx (by decide)).trans hs_32
        have hs_50 : NRq I_44 J_15 x b_10 b_11 = s_33 := by rw [hI_44]; exact (nq_uIt wnqx (by decide)).trans hs_33
        have hs_51 : QTq I_44 J_15 x = s_34 := by rw [hI_44]; exact (qq_uIt wqqx (by decide)).trans hs_34
        refine g_iconst C (v := 1) dX12_readOr_56 (by decide) ?_
        have f_52 : s_34.om = v_21 := (congrArg QT_.om hs_51).symm.trans (kp_j hI_44 (by decide) q_24)
        exact g_zret (ty := .boolean) (r := 1) B K rfl (rfl) ⟨hU_45, hF_46, hG_18, rg_w rc_1 (by decide) (by decide), (by (try simp only [c_41, (eq_true h_42), if_true, if_false, mqM_tp, mqM_size, mqM_limit, mqM_to, mqM_frm, mqM_kind, mqM_number, mqM_sign, mqM_word, MT_.w_tp, MT_.w_size, MT_.w_limit, MT_.w_to, MT_.w_frm, MT_.w_kind, MT_.w_number, MT_.w_sign, MT_.w_word, nqM_rd, nqM_rn, nqM_taped, nqM_mfault, nqM_mplace, nqM_told, nqM_hl, nqM_hd, NR_.w_rd, NR_.w_rn, NR_.w_taped, NR_.w_mfault, NR_.w_mplace, NR_.w_told, NR_.w_hl, NR_.w_hd, qqM_om, QT_.w_om, vqM_nv, NV_.w_nv, zqM_nw, NW_.w_nw] at hQ_35); (try simp only [c_41, (eq_true h_42), if_true, if_false, mqM_tp, mqM_size, mqM_limit, mqM_to, mqM_frm, mqM_kind, mqM_number, mqM_sign, mqM_word, MT_.w_tp, MT_.w_size, MT_.w_limit, MT_.w_to, MT_.w_frm, MT_.w_kind, MT_.w_number, MT_.w_sign, MT_.w_word, nqM_rd, nqM_rn, nqM_taped, nqM_mfault, nqM_mplace, nqM_told, nqM_hl, nqM_hd, NR_.w_rd, NR_.w_rn, NR_.w_taped, NR_.w_mfault, NR_.w_mplace, NR_.w_told, NR_.w_hl, NR_.w_hd, qqM_om, QT_.w_om, vqM_nv, NV_.w_nv, zqM_nw, NW_.w_nw] at u_36); simp only [evqx, hs_47, hs_5, ezqx, hs_48, hs_7, emqx, hs_49, hs_9, enqx, hs_50, hs_12, eqqx, hs_51, hs_13, hQ_35, u_36, c_41, (eq_true h_42), if_true, if_false, mqM_tp, mqM_size, mqM_limit, mqM_to, mqM_frm, mqM_kind, mqM_number, mqM_sign, mqM_word, MT_.w_tp, MT_.w_size, MT_.w_limit, MT_.w_to, MT_.w_frm, MT_.w_kind, MT_.w_number, MT_.w_sign, MT_.w_word, nqM_rd, nqM_rn, nqM_taped, nqM_mfault, nqM_mplace, nqM_told, nqM_hl, nqM_hd, NR_.w_rd, NR_.w_rn, NR_.w_taped, NR_.w_mfault, NR_.w_mplace, NR_.w_told, NR_.w_hl, NR_.w_hd, qqM_om, QT_.w_om, vqM_nv, NV_.w_nv, zqM_nw, NW_.w_nw]), (fun _ => (sz_m hx_1 hx_2 (kp_j hI_44 (by decide) q_23) (kp_j hI_44 (by decide) q_24) (kp_s hI_44) ⟨by omega, by omega, by omega, by omega⟩)), (kp_j hI_44 (by decide) q_25)⟩ dX12_readOr_57
      · skip
        have n_53 : ¬ x_37 = 0 := h_42
        have r_54 := ne_lo (lo := 1) n_53 rx_37 rc_0 rfl (by decide)
        refine g_aload_n C 0 dX12_readOr_23 rfl rfl ?_
        refine g_callVV C K (c_X12_go W9 hLx hkx   hU_16) hLx hkx (by decide) rfl v_12_156 rfl ⟨rfl, rfl⟩ ⟨Nat.le_of_ble_eq_true rfl, Nat.le_of_ble_eq_true rfl⟩ (Nat.le_of_ble_eq_true rfl) ⟨Nat.le_of_ble_eq_true rfl, Nat.le_of_ble_eq_true rfl⟩ dX12_readOr_24 rfl (st := []) (fun I_56 J_57 h_58 => ?_)
        obtain ⟨hUI_56, hFI_56, hGJ_57, fx_55, ex_55⟩ := h_58
        have hF_59 := fq_tr hF_17 hFI_56 (by decide)
        have hG_60 := fq_tr hG_18 hGJ_57 (by decide)
        obtain ⟨s_62, hs_62⟩ : ∃ z, MTq I_56 J_57 x b_8 = z := ⟨_, rfl⟩
        have c_61 : mGo (s_32) = s_62 := by have q := fx_55; simp only [emqx, hs_32, hs_62] at q; exact q.symm
        have hs_63 : NVq I_56 J_57 x b_4 = s_30 := (vq_fq wvqx hFI_56 hGJ_57 (by decide) (by decide)).trans hs_30
        have hs_64 : NWq I_56 J_57 x b_6 = s_31 := (zq_fq wzqx hFI_56 hGJ_57 (by decide) (by decide)).trans hs_31
        have hs_65 : NRq I_56 J_57 x b_10 b_11 = s_33 := (nq_fq wnqx hFI_56 hGJ_57 (by decide) (by decide)).trans hs_33
        have hs_66 : QTq I_56 J_57 x = s_34 := (qq_fq wqqx hFI_56 hGJ_57 (by decide) (by decide)).trans hs_34
        refine g_aload_n C 0 dX12_readOr_27 rfl rfl ?_
        have f_67 : s_34.om = v_21 := (congrArg QT_.om hs_66).symm.trans (fq_at hFI_56 hLx hkx (by decide) (by decide) q_24)
        refine g_callVI C K (c_X12_readAnd_1 W9 hLx hkx   hUI_56  (by rw [(fq_at hFI_56 hLx hkx (by decide) (by decide) q_23), (fq_at hFI_56 hLx hkx (by decide) (by decide) q_24)]; omega) ((fq_at hFI_56 hLx hkx (by decide) (by decide) q_25))) hLx hkx (by decide) rfl v_12_383 rfl ⟨rfl, rfl⟩ ⟨Nat.le_of_ble_eq_true rfl, Nat.le_of_ble_eq_true rfl⟩ (Nat.le_of_ble_eq_true rfl) ⟨Nat.le_of_ble_eq_true rfl, Nat.le_of_ble_eq_true rfl⟩ dX12_readOr_28 rfl (st := []) (fun x_68 I_69 J_70 h_71 => ?_)
        obtain ⟨hUI_69, hFI_69, hGJ_70, rx_68, fx_68, ex_68⟩ := h_71
        have hF_72 := fq_tr hF_59 hFI_69 (by decide)
        have hG_73 := fq_tr hG_60 hGJ_70 (by decide)
        obtain ⟨s_75, hs_75⟩ : ∃ z, MTq I_69 J_70 x b_8 = z := ⟨_, rfl⟩
        obtain ⟨s_76, hs_76⟩ : ∃ z, NRq I_69 J_70 x b_10 b_11 = z := ⟨_, rfl⟩
        obtain ⟨s_77, hs_77⟩ : ∃ z, QTq I_69 J_70 x = z := ⟨_, rfl⟩
        have c_74 : mAndK 7 (s_30) (s_31) (s_62) (s_33) (s_34) = (x_68, s_75, s_76, s_77) := by have q := fx_68; simp only [evqx, ezqx, emqx, enqx, eqqx, hs_63, hs_64, hs_62, hs_65, hs_66, hs_75, hs_76, hs_77] at q; exact q.symm
        have hs_78 : NVq I_69 J_70 x b_4 = s_30 := (vq_fq wvqx hFI_69 hGJ_70 (by decide) (by decide)).trans hs_63
        have hs_79 : NWq I_69 J_70 x b_6 = s_31 := (zq_fq wzqx hFI_69 hGJ_70 (by decide) (by decide)).trans hs_64
        obtain ⟨x_80, hx_80, rx_80⟩ := ex_getw (I := I_69) (a := x) (j := 47) (lo := 0) (hi := 60) hUI_69.1 hLx (ro_o hkx (by decide)) rfl
        obtain ⟨x_81, hx_81, rx_81⟩ := ex_getw (I := I_69) (a := x) (j := 50) (lo := 0) (hi := 59) hUI_69.1 hLx (ro_o hkx (by decide)) rfl
        obtain ⟨x_82, hx_82, rx_82⟩ := ex_getw (I := I_69) (a := x) (j := 48) (lo := 0) (hi := 20) hUI_69.1 hLx (ro_o hkx (by decide)) rfl
        have f_83 : s_77.om = x_82 := (congrArg QT_.om hs_77).symm.trans hx_82
        refine g_if_ne C (tgt := 36) dX12_readOr_31 (by decide) (fun h_84 => ?_) (fun h_84 => ?_)
        · skip
          have n_85 : ¬ x_68 = 0 := h_84
          have r_86 := ne_lo (lo := 1) n_85 rx_68 rc_0 rfl (by decide)
          have f_87 := sz_v (fq_at hFI_56 hLx hkx (by decide) (by decide) q_23) (fq_at hFI_56 hLx hkx (by decide) (by decide) q_24) hx_80 hx_82 hx_81 (ex_68.1 n_85)
          refine g_aload_n C 0 dX12_readOr_36 rfl rfl ?_
          refine g_iconst C (v := 3) dX12_readOr_37 (by decide) ?_
          refine g_iload_n C 1 dX12_readOr_38 rfl rfl ?_
          refine g_aload_n C 0 dX12_readOr_39 rfl rfl ?_
          refine g_getI C K hLx hkx f_12_386 (v := x_81) hx_81 dX12_readOr_40 ?_
          refine g_iconst C (v := 0) dX12_readOr_43 (by decide) ?_
          have r_88 := (show Rg 0 59 x_80 from by have q1 := rx_80; have q2 := rx_82; unfold Rg at *; omega)
          refine g_callVI C K (c_X12_saysOne W9 hLx hkx 3 v_19 x_81 0 (rg_w rc_3 (by decide) (by decide)) (rv_19) (rg_w rx_81 (by decide) (by decide)) hUI_69  (eq_rg hx_80 (r_88)) (by rw [hx_80]; exact ⟨fun _ => ⟨by have := (rv_19).1; omega, by omega⟩, fun _ => ⟨by have := (rx_81).1; omega, by omega⟩, fun q => absurd q (by decide)⟩)) hLx hkx (by decide) rfl v_12_389 rfl ⟨rfl, rfl⟩ ⟨Nat.le_of_ble_eq_true rfl, Nat.le_of_ble_eq_true rfl⟩ (Nat.le_of_ble_eq_true rfl) ⟨Nat.le_of_ble_eq_true rfl, Nat.le_of_ble_eq_true rfl⟩ dX12_readOr_44 rfl (st := []) (fun x_89 I_90 J_91 h_92 => ?_)
          obtain ⟨hUI_90, hFI_90, hGJ_91, rx_89, ex_89⟩ := h_92
          have hF_93 := fq_tr hF_72 hFI_90 (by decide)
          have hG_94 := fq_tr hG_73 hGJ_91 (by decide)
          have hs_95 : NVq I_90 J_91 x b_4 = s_30 := (vq_fq wvqx hFI_90 hGJ_91 (by decide) (by decide)).trans hs_78
          have hs_96 : NWq I_90 J_91 x b_6 = s_31 := (zq_fq wzqx hFI_90 hGJ_91 (by decide) (by decide)).trans hs_79
          have hs_97 : MTq I_90 J_91 x b_8 = s_75 := (mq_fq wmqx hFI_90 hGJ_91 (by decide) (by decide)).trans hs_75
          have hs_98 : NRq I_90 J_91 x b_10 b_11 = s_76 := (nq_fq wnqx hFI_90 hGJ_91 (by decide) (by decide)).trans hs_76
          have hs_99 : QTq I_90 J_91 x = s_77 := (qq_fq wqqx hFI_90 hGJ_91 (by decide) (by decide)).trans hs_77
          obtain ⟨x_100, hx_100, rx_100, tx_100, ux_100⟩ := sa_b (lo := 1) (hi := 60) ex_89 hx_80 r_88 (by decide) (by decide)
          have r_101 := (show Rg 0 59 x_89 from by have q1 := ux_100; have q2 := r_88; unfold Rg at *; omega)
          refine g_istore_n C dX12_readOr_47 rfl (by decide) (lo2 := [(1, .int x_89), (0, .ref x)]) rfl ?_
          refine g_goto C (tgt := 14) dX12_readOr_48 (by decide) ?_
          refine g_lo (is := [1, 0]) (lo2 := [(0, .ref x), (1, .int x_89)]) rfl ?_
          exact ih_14 I_90 J_91 hUI_90 hF_93 hG_94 x_89 (r_101) x_100 (rg_w rx_100 (by decide) (by decide)) x_82 (rx_82) x_81 (rx_81) hx_100 (fq_at hFI_90 hLx hkx (by decide) (by decide) hx_82) (fq_at hFI_90 hLx hkx (by decide) (by decide) ex_68.2) (fq_at hFI_90 hLx hkx (by decide) (by decide) hx_81) (by (try simp only [c_41, h_42, c_61, f_67, c_74, hx_80, hx_81, hx_82, f_83, h_84, hx_100, if_true, if_false, mqM_tp, mqM_size, mqM_limit, mqM_to, mqM_frm, mqM_kind, mqM_number, mqM_sign, mqM_word, MT_.w_tp, MT_.w_size, MT_.w_limit, MT_.w_to, MT_.w_frm, MT_.w_kind, MT_.w_number, MT_.w_sign, MT_.w_word, nqM_rd, nqM_rn, nqM_taped, nqM_mfault, nqM_mplace, nqM_told, nqM_hl, nqM_hd, NR_.w_rd, NR_.w_rn, NR_.w_taped, NR_.w_mfault, NR_.w_mplace, NR_.w_told, NR_.w_hl, NR_.w_hd, qqM_om, QT_.w_om, vqM_nv, NV_.w_nv, zqM_nw, NW_.w_nw] at hQ_35); (try simp only [c_41, h_42, c_61, f_67, c_74, hx_80, hx_81, hx_82, f_83, h_84, hx_100, if_true, if_false, mqM_tp, mqM_size, mqM_limit, mqM_to, mqM_frm, mqM_kind, mqM_number, mqM_sign, mqM_word, MT_.w_tp, MT_.w_size, MT_.w_limit, MT_.w_to, MT_.w_frm, MT_.w_kind, MT_.w_number, MT_.w_sign, MT_.w_word, nqM_rd, nqM_rn, nqM_taped, nqM_mfault, nqM_mplace, nqM_told, nqM_hl, nqM_hd, NR_.w_rd, NR_.w_rn, NR_.w_taped, NR_.w_mfault, NR_.w_mplace, NR_.w_told, NR_.w_hl, NR_.w_hd, qqM_om, QT_.w_om, vqM_nv, NV_.w_nv, zqM_nw, NW_.w_nw] at u_36); simp only [evqx, hs_95, hs_5, ezqx, hs_96, hs_7, emqx, hs_97, hs_9, enqx, hs_98, hs_12, eqqx, hs_99, hs_13, hQ_35, u_36, c_41, h_42, c_61, f_67, c_74, hx_80, hx_81, hx_82, f_83, h_84, hx_100, if_true, if_false, mqM_tp, mqM_size, mqM_limit, mqM_to, mqM_frm, mqM_kind, mqM_number, mqM_sign, mqM_word, MT_.w_tp, MT_.w_size, MT_.w_limit, MT_.w_to, MT_.w_frm, MT_.w_kind, MT_.w_number, MT_.w_sign, MT_.w_word, nqM_rd, nqM_rn, nqM_taped, nqM_mfault, nqM_mplace, nqM_told, nqM_hl, nqM_hd, NR_.w_rd, NR_.w_rn, NR_.w_taped, NR_.w_mfault, NR_.w_mplace, NR_.w_told, NR_.w_hl, NR_.w_hd, qqM_om, QT_.w_om, vqM_nv, NV_.w_nv, zqM_nw, NW_.w_nw]) ⟨by have := tx_100; omega, by have := tx_100; omega, by have := tx_100; omega, by have := tx_100; omega⟩ (by have q9 := hm_29; have := tx_100; omega)
        · skip
          have r_102 := (⟨(rx_68).1, (eq_rg (h_84) rc_0).2⟩ : Rg 0 0 x_68)
          refine g_iconst C (v := 0) dX12_readOr_34 (by decide) ?_
          exact g_zret (ty := .boolean) (r := 0) B K rfl (rfl) ⟨hUI_69, hF_72, hG_73, rg_w rc_0 (by decide) (by decide), (by (try simp only [c_41, h_42, c_61, f_67, c_74, hx_80, hx_81, hx_82, f_83, (eq_true h_84), if_true, if_false, mqM_tp, mqM_size, mqM_limit, mqM_to, mqM_frm, mqM_kind, mqM_number, mqM_sign, mqM_word, MT_.w_tp, MT_.w_size, MT_.w_limit, MT_.w_to, MT_.w_frm, MT_.w_kind, MT_.w_number, MT_.w_sign, MT_.w_word, nqM_rd, nqM_rn, nqM_taped, nqM_mfault, nqM_mplace, nqM_told, nqM_hl, nqM_hd, NR_.w_rd, NR_.w_rn, NR_.w_taped, NR_.w_mfault, NR_.w_mplace, NR_.w_told, NR_.w_hl, NR_.w_hd, qqM_om, QT_.w_om, vqM_nv, NV_.w_nv, zqM_nw, NW_.w_nw] at hQ_35); (try simp only [c_41, h_42, c_61, f_67, c_74, hx_80, hx_81, hx_82, f_83, (eq_true h_84), if_true, if_false, mqM_tp, mqM_size, mqM_limit, mqM_to, mqM_frm, mqM_kind, mqM_number, mqM_sign, mqM_word, MT_.w_tp, MT_.w_size, MT_.w_limit, MT_.w_to, MT_.w_frm, MT_.w_kind, MT_.w_number, MT_.w_sign, MT_.w_word, nqM_rd, nqM_rn, nqM_taped, nqM_mfault, nqM_mplace, nqM_told, nqM_hl, nqM_hd, NR_.w_rd, NR_.w_rn, NR_.w_taped, NR_.w_mfault, NR_.w_mplace, NR_.w_told, NR_.w_hl, NR_.w_hd, qqM_om, QT_.w_om, vqM_nv, NV_.w_nv, zqM_nw, NW_.w_nw] at u_36); simp only [evqx, hs_78, hs_5, ezqx, hs_79, hs_7, emqx, hs_75, hs_9, enqx, hs_76, hs_12, eqqx, hs_77, hs_13, hQ_35, u_36, c_41, h_42, c_61, f_67, c_74, hx_80, hx_81, hx_82, f_83, (eq_true h_84), if_true, if_false, mqM_tp, mqM_size, mqM_limit, mqM_to, mqM_frm, mqM_kind, mqM_number, mqM_sign, mqM_word, MT_.w_tp, MT_.w_size, MT_.w_limit, MT_.w_to, MT_.w_frm, MT_.w_kind, MT_.w_number, MT_.w_sign, MT_.w_word, nqM_rd, nqM_rn, nqM_taped, nqM_mfault, nqM_mplace, nqM_told, nqM_hl, nqM_hd, NR_.w_rd, NR_.w_rn, NR_.w_taped, NR_.w_mfault, NR_.w_mplace, NR_.w_told, NR_.w_hl, NR_.w_hd, qqM_om, QT_.w_om, vqM_nv, NV_.w_nv, zqM_nw, NW_.w_nw]), (fun q => absurd rfl q), ex_68.2⟩ dX12_readOr_35
  refine g_aload_n C 0 dX12_readOr_0 rfl rfl ?_
  have f_103 : s_13.om = x_2 := (congrArg QT_.om hs_13).symm.trans hx_2
  refine g_callVI C K (c_X12_readAnd_1 W9 hLx hkx   hU  (by rw [hx_1, hx_2]; omega) (hwi)) hLx hkx (by decide) rfl v_12_383 rfl ⟨rfl, rfl⟩ ⟨Nat.le_of_ble_eq_true rfl, Nat.le_of_ble_eq_true rfl⟩ (Nat.le_of_ble_eq_true rfl) ⟨Nat.le_of_ble_eq_true rfl, Nat.le_of_ble_eq_true rfl⟩ dX12_readOr_1 rfl (st := []) (fun x_104 I_105 J_106 h_107 => ?_)
  obtain ⟨hUI_105, hFI_105, hGJ_106, rx_104, fx_104, ex_104⟩ := h_107
  have hF_108 := fq_tr hF hFI_105 (by decide)
  have hG_109 := fq_tr hG hGJ_106 (by decide)
  obtain ⟨s_111, hs_111⟩ : ∃ z, MTq I_105 J_106 x b_8 = z := ⟨_, rfl⟩
  obtain ⟨s_112, hs_112⟩ : ∃ z, NRq I_105 J_106 x b_10 b_11 = z := ⟨_, rfl⟩
  obtain ⟨s_113, hs_113⟩ : ∃ z, QTq I_105 J_106 x = z := ⟨_, rfl⟩
  have c_110 : mAndK 7 (s_5) (s_7) (s_9) (s_12) (s_13) = (x_104, s_111, s_112, s_113) := by have q := fx_104; simp only [evqx, ezqx, emqx, enqx, eqqx, hs_5, hs_7, hs_9, hs_12, hs_13, hs_111, hs_112, hs_113] at q; exact q.symm
  have hs_114 : NVq I_105 J_106 x b_4 = s_5 := (vq_fq wvqx hFI_105 hGJ_106 (by decide) (by decide)).trans hs_5
  have hs_115 : NWq I_105 J_106 x b_6 = s_7 := (zq_fq wzqx hFI_105 hGJ_106 (by decide) (by decide)).trans hs_7
  obtain ⟨x_116, hx_116, rx_116⟩ := ex_getw (I := I_105) (a := x) (j := 47) (lo := 0) (hi := 60) hUI_105.1 hLx (ro_o hkx (by decide)) rfl
  obtain ⟨x_117, hx_117, rx_117⟩ := ex_getw (I := I_105) (a := x) (j := 50) (lo := 0) (hi := 59) hUI_105.1 hLx (ro_o hkx (by decide)) rfl
  obtain ⟨x_118, hx_118, rx_118⟩ := ex_getw (I := I_105) (a := x) (j := 48) (lo := 0) (hi := 20) hUI_105.1 hLx (ro_o hkx (by decide)) rfl
  have f_119 : s_113.om = x_118 := (congrArg QT_.om hs_113).symm.trans hx_118
  refine g_if_ne C (tgt := 9) dX12_readOr_4 (by decide) (fun h_120 => ?_) (fun h_120 => ?_)
  · skip
    have n_121 : ¬ x_104 = 0 := h_120
    have r_122 := ne_lo (lo := 1) n_121 rx_104 rc_0 rfl (by decide)
    have f_123 := sz_v hx_1 hx_2 hx_116 hx_118 hx_117 (ex_104.1 n_121)
    refine g_aload_n C 0 dX12_readOr_9 rfl rfl ?_
    refine g_getI C K hLx hkx f_12_386 (v := x_117) hx_117 dX12_readOr_10 ?_
    refine g_istore_n C dX12_readOr_13 rfl (by decide) (lo2 := [(1, .int x_117), (0, .ref x)]) rfl ?_
    refine g_lo (is := [1, 0]) (lo2 := [(0, .ref x), (1, .int x_117)]) rfl ?_
    exact l_14 21 I_105 J_106 hUI_105 hF_108 hG_109 x_117 (rx_117) x_116 (rx_116) x_118 (rx_118) x_117 (rx_117) hx_116 hx_118 ex_104.2 hx_117 (by simp only [mOrK, evqx, hs_114, hs_5, ezqx, hs_115, hs_7, emqx, hs_111, hs_9, enqx, hs_112, hs_12, eqqx, hs_113, hs_13, hx_1, hx_2, hx_3, f_103, c_110, hx_116, hx_117, hx_118, f_119, h_120, if_true, if_false, mqM_tp, mqM_size, mqM_limit, mqM_to, mqM_frm, mqM_kind, mqM_number, mqM_sign, mqM_word, MT_.w_tp, MT_.w_size, MT_.w_limit, MT_.w_to, MT_.w_frm, MT_.w_kind, MT_.w_number, MT_.w_sign, MT_.w_word, nqM_rd, nqM_rn, nqM_taped, nqM_mfault, nqM_mplace, nqM_told, nqM_hl, nqM_hd, NR_.w_rd, NR_.w_rn, NR_.w_taped, NR_.w_mfault, NR_.w_mplace, NR_.w_told, NR_.w_hl, NR_.w_hd, qqM_om, QT_.w_om, vqM_nv, NV_.w_nv, zqM_nw, NW_.w_nw]) ⟨by omega, by omega, by omega, by omega⟩ (by have := (rx_118).1; omega)
  · skip
    have r_124 := (⟨(rx_104).1, (eq_rg (h_120) rc_0).2⟩ : Rg 0 0 x_104)
    refine g_iconst C (v := 0) dX12_readOr_7 (by decide) ?_
    exact g_zret (ty := .boolean) (r := 0) B K rfl (rfl) ⟨hUI_105, hF_108, hG_109, rg_w rc_0 (by decide) (by decide), (by simp only [mOrK, evqx, hs_114, hs_5, ezqx, hs_115, hs_7, emqx, hs_111, hs_9, enqx, hs_112, hs_12, eqqx, hs_113, hs_13, hx_1, hx_2, hx_3, f_103, c_110, hx_116, hx_117, hx_118, f_119, (eq_true h_120), if_true, if_false, mqM_tp, mqM_size, mqM_limit, mqM_to, mqM_frm, mqM_kind, mqM_number, mqM_sign, mqM_word, MT_.w_tp, MT_.w_size, MT_.w_limit, MT_.w_to, MT_.w_frm, MT_.w_kind, MT_.w_number, MT_.w_sign, MT_.w_word, nqM_rd, nqM_rn, nqM_taped, nqM_mfault, nqM_mplace, nqM_told, nqM_hl, nqM_hd, NR_.w_rd, NR_.w_rn, NR_.w_taped, NR_.w_mfault, NR_.w_mplace, NR_.w_told, NR_.w_hl, NR_.w_hd, qqM_om, QT_.w_om, vqM_nv, NV_.w_nv, zqM_nw, NW_.w_nw]), (fun q => absurd rfl q), ex_104.2⟩ dX12_readOr_8
set_option maxRecDepth 100000 in
set_option maxHeartbeats 8000000 in
theorem c_X12_readBracket_1 {l : Launch} {D : va_G} {cy : Nat → ClassId} {L : List Nat} {κ ln : Nat → Nat} {R : Nat → Nat → Option Nat} {I : Nat → Nat → Int32} {J : Nat → Nat → Int64} {ow : Nat → Nat × Nat} (W9 : ∀ a ∈ L, Shp L κ ln R ow a) {x : Nat} (hLx : x ∈ L) (hkx : κ x = 12) (hU : Iw L κ R ow I) (hn : (I x 47).toInt ≤ 2 * (I x 48).toInt) (hwi : I x 49 = 1) : CtI l yX12_readBracket cX12_readBracket 1 (some .boolean) { frames := 34, cells := 0, slots := 0, locals := 729 } D cy L κ ln R I J [.ref x] (fun r I2 J2 => Iw L κ R ow I2 ∧ Fq L κ ow [1205, 1206, 1207, 1208, 1209, 1210, 1211, 1213, 1247, 1248, 1249, 1250, 86600] I I2 ∧ Fq L κ ow [1212] J J2 ∧ Rg 0 1 r ∧ ((r, MTf R I2 J2 x, NRf R I2 J2 x, QTf R I2 J2 x) = mBrK 7 (NVf R I J x) (NWf R I J x) (MTf R I J x) (NRf R I J x) (QTf R I J x)) ∧ (¬ r = 0 → Sz_ x I I2 1) ∧ (I2 x 49 = 1)) := by
  obtain ⟨x_1, hx_1, rx_1⟩ := ex_getw (I := I) (a := x) (j := 47) (lo := 0) (hi := 60) hU.1 hLx (ro_o hkx (by decide)) rfl
  obtain ⟨x_2, hx_2, rx_2⟩ := ex_getw (I := I) (a := x) (j := 48) (lo := 0) (hi := 20) hU.1 hLx (ro_o hkx (by decide)) rfl
  rw [hx_1, hx_2] at hn
  obtain ⟨x_3, hx_3, rx_3⟩ := ex_getw (I := I) (a := x) (j := 50) (lo := 0) (hi := 59) hU.1 hLx (ro_o hkx (by decide)) rfl
  refine CtI.of (by decide +kernel) (Nat.le_of_ble_eq_true rfl) ?_
  intro p e s m below meth c B K
  have C := B.1
  have hF : Fq L κ ow [1205, 1206, 1207, 1208, 1209, 1210, 1211, 1213, 1247, 1248, 1249, 1250, 86600] I I := fq_rf
  have hG : Fq L κ ow [1212] J J := fq_rf
  obtain ⟨b_4, hb_4, hb_4L, hb_4k, hb_4n, hb_4o⟩ := shp_a (W9 x hLx) hkx 19 15 13 rfl (by decide)
  have evqx : ∀ I J, NVf R I J x = NVq I J x b_4 := fun I J => by simp only [NVf, rr_, Option.getD_some, hb_4]
  have wvqx : vqw_ L κ ow x b_4 := ⟨⟨hLx, hb_4L⟩, ⟨(ro_o hkx (by decide)), (ro_a hb_4k (by decide) hb_4o hkx rfl)⟩⟩
  obtain ⟨s_5, hs_5⟩ : ∃ z, NVq I J x b_4 = z := ⟨_, rfl⟩
  obtain ⟨b_6, hb_6, hb_6L, hb_6k, hb_6n, hb_6o⟩ := shp_a (W9 x hLx) hkx 14 14 389 rfl (by decide)
  have ezqx : ∀ I J, NWf R I J x = NWq I J x b_6 := fun I J => by simp only [NWf, rr_, Option.getD_some, hb_6]
  have wzqx : zqw_ L κ ow x b_6 := ⟨⟨hLx, hb_6L⟩, ⟨(ro_o hkx (by decide)), (ro_a hb_6k (by decide) hb_6o hkx rfl)⟩⟩
  obtain ⟨s_7, hs_7⟩ : ∃ z, NWq I J x b_6 = z := ⟨_, rfl⟩
  obtain ⟨b_8, hb_8, hb_8L, hb_8k, hb_8n, hb_8o⟩ := shp_a (W9 x hLx) hkx 1 14 940 rfl (by decide)
  have emqx : ∀ I J, MTf R I J x = MTq I J x b_8 := fun I J => by simp only [MTf, rr_, Option.getD_some, hb_8]
  have wmqx : mqw_ L κ ow x b_8 := ⟨⟨hLx, hb_8L⟩, ⟨(ro_o hkx (by decide)), (ro_a hb_8k (by decide) hb_8o hkx rfl)⟩⟩
  obtain ⟨s_9, hs_9⟩ : ∃ z, MTq I J x b_8 = z := ⟨_, rfl⟩
  obtain ⟨b_10, hb_10, hb_10L, hb_10k, hb_10n, hb_10o⟩ := shp_a (W9 x hLx) hkx 15 14 72 rfl (by decide)
  obtain ⟨b_11, hb_11, hb_11L, hb_11k, hb_11n, hb_11o⟩ := shp_a (W9 x hLx) hkx 20 15 13 rfl (by decide)
  have enqx : ∀ I J, NRf R I J x = NRq I J x b_10 b_11 := fun I J => by simp only [NRf, rr_, Option.getD_some, hb_10, hb_11]
  have wnqx : nqw_ L κ ow x b_10 b_11 := ⟨⟨hLx, hb_10L, hb_11L⟩, ⟨(ro_o hkx (by decide)), (ro_a hb_10k (by decide) hb_10o hkx rfl), (ro_a hb_11k (by decide) hb_11o hkx rfl)⟩⟩
  obtain ⟨s_12, hs_12⟩ : ∃ z, NRq I J x b_10 b_11 = z := ⟨_, rfl⟩
  have eqqx : ∀ I J, QTf R I J x = QTq I J x := fun I J => by simp only [QTf, rr_, Option.getD_some]
  have wqqx : qqw_ L κ ow x := ⟨hLx, (ro_o hkx (by decide))⟩
  obtain ⟨s_13, hs_13⟩ : ∃ z, QTq I J x = z := ⟨_, rfl⟩
  refine g_lo (is := [0]) (lo2 := [(0, .ref x)]) rfl ?_
  refine g_aload_n C 0 dX12_readBracket_0 rfl rfl ?_
  have f_14 : s_13.om = x_2 := (congrArg QT_.om hs_13).symm.trans hx_2
  refine g_callVI C K (c_X12_readOr_1 W9 hLx hkx   hU  (by rw [hx_1, hx_2]; omega) (hwi)) hLx hkx (by decide) rfl v_12_413 rfl ⟨rfl, rfl⟩ ⟨Nat.le_of_ble_eq_true rfl, Nat.le_of_ble_eq_true rfl⟩ (Nat.le_of_ble_eq_true rfl) ⟨Nat.le_of_ble_eq_true rfl, Nat.le_of_ble_eq_true rfl⟩ dX12_readBracket_1 rfl (st := []) (fun x_15 I_16 J_17 h_18 => ?_)
  obtain ⟨hUI_16, hFI_16, hGJ_17, rx_15, fx_15, ex_15⟩ := h_18
  have hF_19 := fq_tr hF hFI_16 (by decide)
  have hG_20 := fq_tr hG hGJ_17 (by decide)
  obtain ⟨s_22, hs_22⟩ : ∃ z, MTq I_16 J_17 x b_8 = z := ⟨_, rfl⟩
  obtain ⟨s_23, hs_23⟩ : ∃ z, NRq I_16 J_17 x b_10 b_11 = z := ⟨_, rfl⟩
  obtain ⟨s_24, hs_24⟩ : ∃ z, QTq I_16 J_17 x = z := ⟨_, rfl⟩
  have c_21 : mOrK 7 (s_5) (s_7) (s_9) (s_12) (s_13) = (x_15, s_22, s_23, s_24) := by have q := fx_15; simp only [evqx, ezqx, emqx, enqx, eqqx, hs_5, hs_7, hs_9, hs_12, hs_13, hs_22, hs_23, hs_24] at q; exact q.symm
  have hs_25 : NVq I_16 J_17 x b_4 = s_5 := (vq_fq wvqx hFI_16 hGJ_17 (by decide) (by decide)).trans hs_5
  have hs_26 : NWq I_16 J_17 x b_6 = s_7 := (zq_fq wzqx hFI_16 hGJ_17 (by decide) (by decide)).trans hs_7
  obtain ⟨x_27, hx_27, rx_27⟩ := ex_getw (I := I_16) (a := x) (j := 47) (lo := 0) (hi := 60) hUI_16.1 hLx (ro_o hkx (by decide)) rfl
  obtain ⟨x_28, hx_28, rx_28⟩ := ex_getw (I := I_16) (a := x) (j := 50) (lo := 0) (hi := 59) hUI_16.1 hLx (ro_o hkx (by decide)) rfl
  obtain ⟨x_29, hx_29, rx_29⟩ := ex_getw (I := I_16) (a := x) (j := 48) (lo := 0) (hi := 20) hUI_16.1 hLx (ro_o hkx (by decide)) rfl
  have f_30 : s_24.om = x_29 := (congrArg QT_.om hs_24).symm.trans hx_29
  refine g_if_ne C (tgt := 9) dX12_readBracket_4 (by decide) (fun h_31 => ?_) (fun h_31 => ?_)
  · skip
    have n_32 : ¬ x_15 = 0 := h_31
    have r_33 := ne_lo (lo := 1) n_32 rx_15 rc_0 rfl (by decide)
    have f_34 := sz_v hx_1 hx_2 hx_27 hx_29 hx_28 (ex_15.1 n_32)
    refine g_aload_n C 0 dX12_readBracket_9 rfl rfl ?_
    refine g_bipush C (v := 41) dX12_readBracket_10 (by decide) ?_
    obtain ⟨x_35, hx_35, rx_35⟩ := ex_getw (I := I_16) (a := x) (j := 7) (lo := 0) (hi := 4) hUI_16.1 hLx (ro_o hkx (by decide)) rfl
    have f_36 : s_22.kind = x_35 := (congrArg MT_.kind hs_22).symm.trans hx_35
    refine g_callVI C K (c_X12_isSign W9 hLx hkx 41 (rg_w rc_41 (by decide) (by decide)) hUI_16) hLx hkx (by decide) rfl v_12_159 rfl ⟨rfl, rfl⟩ ⟨Nat.le_of_ble_eq_true rfl, Nat.le_of_ble_eq_true rfl⟩ (Nat.le_of_ble_eq_true rfl) ⟨Nat.le_of_ble_eq_true rfl, Nat.le_of_ble_eq_true rfl⟩ dX12_readBracket_12 rfl (st := []) (fun x_37 I_38 J_39 h_40 => ?_)
    obtain ⟨rfl, rfl, rx_37, fx_37, ex_37⟩ := h_40
    have c_41 : mIsSign (41) (s_22) = x_37 := by have q := fx_37; simp only [emqx, hs_22] at q; exact q.symm
    have q_42 := hx_35
    refine g_if_ne C (tgt := 24) dX12_readBracket_15 (by decide) (fun h_43 => ?_) (fun h_43 => ?_)
    · skip
      have n_44 : ¬ x_37 = 0 := h_43
      have r_45 := ne_lo (lo := 1) n_44 rx_37 rc_0 rfl (by decide)
      have r_46 := rg_i rx_35 (eq_rg q_42.symm ((ex_37) n_44)) (lo := 4) (hi := 4) (by decide) (by decide)
      refine g_aload_n C 0 dX12_readBracket_24 rfl rfl ?_
      refine g_callVV C K (c_X12_go W9 hLx hkx   hUI_16) hLx hkx (by decide) rfl v_12_156 rfl ⟨rfl, rfl⟩ ⟨Nat.le_of_ble_eq_true rfl, Nat.le_of_ble_eq_true rfl⟩ (Nat.le_of_ble_eq_true rfl) ⟨Nat.le_of_ble_eq_true rfl, Nat.le_of_ble_eq_true rfl⟩ dX12_readBracket_25 rfl (st := []) (fun I_48 J_49 h_50 => ?_)
      obtain ⟨hUI_48, hFI_48, hGJ_49, fx_47, ex_47⟩ := h_50
      have hF_51 := fq_tr hF_19 hFI_48 (by decide)
      have hG_52 := fq_tr hG_20 hGJ_49 (by decide)
      obtain ⟨s_54, hs_54⟩ : ∃ z, MTq I_48 J_49 x b_8 = z := ⟨_, rfl⟩
      have c_53 : mGo (s_22) = s_54 := by have q := fx_47; simp only [emqx, hs_22, hs_54] at q; exact q.symm
      have hs_55 : NVq I_48 J_49 x b_4 = s_5 := (vq_fq wvqx hFI_48 hGJ_49 (by decide) (by decide)).trans hs_25
      have hs_56 : NWq I_48 J_49 x b_6 = s_7 := (zq_fq wzqx hFI_48 hGJ_49 (by decide) (by decide)).trans hs_26
      have hs_57 : NRq I_48 J_49 x b_10 b_11 = s_23 := (nq_fq wnqx hFI_48 hGJ_49 (by decide) (by decide)).trans hs_23
      have hs_58 : QTq I_48 J_49 x = s_24 := (qq_fq wqqx hFI_48 hGJ_49 (by decide) (by decide)).trans hs_24
      refine g_iconst C (v := 1) dX12_readBracket_28 (by decide) ?_
      exact g_zret (ty := .boolean) (r := 1) B K rfl (rfl) ⟨hUI_48, hF_51, hG_52, rg_w rc_1 (by decide) (by decide), (by simp only [mBrK, mBadQ, evqx, hs_55, hs_5, ezqx, hs_56, hs_7, emqx, hs_54, hs_9, enqx, hs_57, hs_12, eqqx, hs_58, hs_13, hx_1, hx_2, hx_3, f_14, c_21, hx_27, hx_28, hx_29, f_30, h_31, hx_35, f_36, c_41, h_43, c_53, if_true, if_false, mqM_tp, mqM_size, mqM_limit, mqM_to, mqM_frm, mqM_kind, mqM_number, mqM_sign, mqM_word, MT_.w_tp, MT_.w_size, MT_.w_limit, MT_.w_to, MT_.w_frm, MT_.w_kind, MT_.w_number, MT_.w_sign, MT_.w_word, nqM_rd, nqM_rn, nqM_taped, nqM_mfault, nqM_mplace, nqM_told, nqM_hl, nqM_hd, NR_.w_rd, NR_.w_rn, NR_.w_taped, NR_.w_mfault, NR_.w_mplace, NR_.w_told, NR_.w_hl, NR_.w_hd, qqM_om, QT_.w_om, vqM_nv, NV_.w_nv, zqM_nw, NW_.w_nw]), (fun _ => (sz_m hx_1 hx_2 (fq_at hFI_48 hLx hkx (by decide) (by decide) hx_27) (fq_at hFI_48 hLx hkx (by decide) (by decide) hx_29) (fq_at hFI_48 hLx hkx (by decide) (by decide) hx_28) ⟨by omega, by omega, by omega, by omega⟩)), (fq_at hFI_48 hLx hkx (by decide) (by decide) ex_15.2)⟩ dX12_readBracket_29
    · skip
      have r_59 := (⟨(rx_37).1, (eq_rg (h_43) rc_0).2⟩ : Rg 0 0 x_37)
      refine g_aload_n C 0 dX12_readBracket_18 rfl rfl ?_
      refine g_iconst C (v := 1) dX12_readBracket_19 (by decide) ?_
      refine g_callVI C K (c_X12_bad W9 hLx hkx 1 (rg_w rc_1 (by decide) (by decide)) hUI_16) hLx hkx (by decide) rfl v_12_146 rfl ⟨rfl, rfl⟩ ⟨Nat.le_of_ble_eq_true rfl, Nat.le_of_ble_eq_true rfl⟩ (Nat.le_of_ble_eq_true rfl) ⟨Nat.le_of_ble_eq_true rfl, Nat.le_of_ble_eq_true rfl⟩ dX12_readBracket_20 rfl (st := []) (fun x_60 I_61 J_62 h_63 => ?_)
      obtain ⟨hUI_61, hFI_61, hGJ_62, rx_60, fx_60⟩ := h_63
      have hF_64 := fq_tr hF_19 hFI_61 (by decide)
      have hG_65 := fq_tr hG_20 hGJ_62 (by decide)
      obtain ⟨s_67, hs_67⟩ : ∃ z, MTq I_61 J_62 x b_8 = z := ⟨_, rfl⟩
      obtain ⟨s_68, hs_68⟩ : ∃ z, NRq I_61 J_62 x b_10 b_11 = z := ⟨_, rfl⟩
      have c_66 : mBad (1) (s_22) (s_23) = (x_60, s_67, s_68) := by have q := fx_60; simp only [emqx, enqx, hs_22, hs_23, hs_67, hs_68] at q; exact q.symm
      have hs_69 : NVq I_61 J_62 x b_4 = s_5 := (vq_fq wvqx hFI_61 hGJ_62 (by decide) (by decide)).trans hs_25
      have hs_70 : NWq I_61 J_62 x b_6 = s_7 := (zq_fq wzqx hFI_61 hGJ_62 (by decide) (by decide)).trans hs_26
      have hs_71 : QTq I_61 J_62 x = s_24 := (qq_fq wqqx hFI_61 hGJ_62 (by decide) (by decide)).trans hs_24
      exact g_zret (ty := .boolean) (r := x_60) B K rfl (nar_z (rg_w rx_60 (by decide) (by decide))) ⟨hUI_61, hF_64, hG_65, rg_w rx_60 (by decide) (by decide), (by simp only [mBrK, mBadQ, evqx, hs_69, hs_5, ezqx, hs_70, hs_7, emqx, hs_67, hs_9, enqx, hs_68, hs_12, eqqx, hs_71, hs_13, hx_1, hx_2, hx_3, f_14, c_21, hx_27, hx_28, hx_29, f_30, h_31, hx_35, f_36, c_41, (eq_true h_43), c_66, if_true, if_false, mqM_tp, mqM_size, mqM_limit, mqM_to, mqM_frm, mqM_kind, mqM_number, mqM_sign, mqM_word, MT_.w_tp, MT_.w_size, MT_.w_limit, MT_.w_to, MT_.w_frm, MT_.w_kind, MT_.w_number, MT_.w_sign, MT_.w_word, nqM_rd, nqM_rn, nqM_taped, nqM_mfault, nqM_mplace, nqM_told, nqM_hl, nqM_hd, NR_.w_rd, NR_.w_rn, NR_.w_taped, NR_.w_mfault, NR_.w_mplace, NR_.w_told, NR_.w_hl, NR_.w_hd, qqM_om, QT_.w_om, vqM_nv, NV_.w_nv, zqM_nw, NW_.w_nw]), (fun q => ne_no q rx_60 rc_0), (fq_at hFI_61 hLx hkx (by decide) (by decide) ex_15.2)⟩ dX12_readBracket_23
  · skip
    have r_72 := (⟨(rx_15).1, (eq_rg (h_31) rc_0).2⟩ : Rg 0 0 x_15)
    refine g_iconst C (v := 0) dX12_readBracket_7 (by decide) ?_
    exact g_zret (ty := .boolean) (r := 0) B K rfl (rfl) ⟨hUI_16, hF_19, hG_20, rg_w rc_0 (by decide) (by decide), (by simp only [mBrK, mBadQ, evqx, hs_25, hs_5, ezqx, hs_26, hs_7, emqx, hs_22, hs_9, enqx, hs_23, hs_12, eqqx, hs_24, hs_13, hx_1, hx_2, hx_3, f_14, c_21, hx_27, hx_28, hx_29, f_30, (eq_true h_31), if_true, if_false, mqM_tp, mqM_size, mqM_limit, mqM_to, mqM_frm, mqM_kind, mqM_number, mqM_sign, mqM_word, MT_.w_tp, MT_.w_size, MT_.w_limit, MT_.w_to, MT_.w_frm, MT_.w_kind, MT_.w_number, MT_.w_sign, MT_.w_word, nqM_rd, nqM_rn, nqM_taped, nqM_mfault, nqM_mplace, nqM_told, nqM_hl, nqM_hd, NR_.w_rd, NR_.w_rn, NR_.w_taped, NR_.w_mfault, NR_.w_mplace, NR_.w_told, NR_.w_hl, NR_.w_hd, qqM_om, QT_.w_om, vqM_nv, NV_.w_nv, zqM_nw, NW_.w_nw]), (fun q => absurd rfl q), ex_15.2⟩ dX12_readBracket_8
set_option maxRecDepth 100000 in
set_option maxHeartbeats 8000000 in
theorem c_X12_readNot_1 {l : Launch} {D : va_G} {cy : Nat → ClassId} {L : List Nat} {κ ln : Nat → Nat} {R : Nat → Nat → Option Nat} {I : Nat → Nat → Int32} {J : Nat → Nat → Int64} {ow : Nat → Nat × Nat} (W9 : ∀ a ∈ L, Shp L κ ln R ow a) {x : Nat} (hLx : x ∈ L) (hkx : κ x = 12) (hU : Iw L κ R ow I) (hn : (I x 47).toInt ≤ 2 * (I x 48).toInt) (hwi : I x 49 = 1) : CtI l yX12_readNot cX12_readNot 1 (some .boolean) { frames := 32, cells := 0, slots := 0, locals := 687 } D cy L κ ln R I J [.ref x] (fun r I2 J2 => Iw L κ R ow I2 ∧ Fq L κ ow [1205, 1206, 1207, 1208, 1209, 1210, 1211, 1213, 1247, 1248, 1249, 1250, 86600] I I2 ∧ Fq L κ ow [1212] J J2 ∧ Rg 0 1 r ∧ ((r, MTf R I2 J2 x, NRf R I2 J2 x, QTf R I2 J2 x) = mNtK 7 (NVf R I J x) (NWf R I J x) (MTf R I J x) (NRf R I J x) (QTf R I J x)) ∧ (¬ r = 0 → Sz_ x I I2 0) ∧ (I2 x 49 = 1)) := by
  obtain ⟨x_1, hx_1, rx_1⟩ := ex_getw (I := I) (a := x) (j := 47) (lo := 0) (hi := 60) hU.1 hLx (ro_o hkx (by decide)) rfl
  obtain ⟨x_2, hx_2, rx_2⟩ := ex_getw (I := I) (a := x) (j := 48) (lo := 0) (hi := 20) hU.1 hLx (ro_o hkx (by decide)) rfl
  rw [hx_1, hx_2] at hn
  obtain ⟨x_3, hx_3, rx_3⟩ := ex_getw (I := I) (a := x) (j := 50) (lo := 0) (hi := 59) hU.1 hLx (ro_o hkx (by decide)) rfl
  refine CtI.of (by decide +kernel) (Nat.le_of_ble_eq_true rfl) ?_
  intro p e s m below meth c B K
  have C := B.1
  have hF : Fq L κ ow [1205, 1206, 1207, 1208, 1209, 1210, 1211, 1213, 1247, 1248, 1249, 1250, 86600] I I := fq_rf
  have hG : Fq L κ ow [1212] J J := fq_rf
  obtain ⟨b_4, hb_4, hb_4L, hb_4k, hb_4n, hb_4o⟩ := shp_a (W9 x hLx) hkx 19 15 13 rfl (by decide)
  have evqx : ∀ I J, NVf R I J x = NVq I J x b_4 := fun I J => by simp only [NVf, rr_, Option.getD_some, hb_4]
  have wvqx : vqw_ L κ ow x b_4 := ⟨⟨hLx, hb_4L⟩, ⟨(ro_o hkx (by decide)), (ro_a hb_4k (by decide) hb_4o hkx rfl)⟩⟩
  obtain ⟨s_5, hs_5⟩ : ∃ z, NVq I J x b_4 = z := ⟨_, rfl⟩
  obtain ⟨b_6, hb_6, hb_6L, hb_6k, hb_6n, hb_6o⟩ := shp_a (W9 x hLx) hkx 14 14 389 rfl (by decide)
  have ezqx : ∀ I J, NWf R I J x = NWq I J x b_6 := fun I J => by simp only [NWf, rr_, Option.getD_some, hb_6]
  have wzqx : zqw_ L κ ow x b_6 := ⟨⟨hLx, hb_6L⟩, ⟨(ro_o hkx (by decide)), (ro_a hb_6k (by decide) hb_6o hkx rfl)⟩⟩
  obtain ⟨s_7, hs_7⟩ : ∃ z, NWq I J x b_6 = z := ⟨_, rfl⟩
  obtain ⟨b_8, hb_8, hb_8L, hb_8k, hb_8n, hb_8o⟩ := shp_a (W9 x hLx) hkx 1 14 940 rfl (by decide)
  have emqx : ∀ I J, MTf R I J x = MTq I J x b_8 := fun I J => by simp only [MTf, rr_, Option.getD_some, hb_8]
  have wmqx : mqw_ L κ ow x b_8 := ⟨⟨hLx, hb_8L⟩, ⟨(ro_o hkx (by decide)), (ro_a hb_8k (by decide) hb_8o hkx rfl)⟩⟩
  obtain ⟨s_9, hs_9⟩ : ∃ z, MTq I J x b_8 = z := ⟨_, rfl⟩
  obtain ⟨b_10, hb_10, hb_10L, hb_10k, hb_10n, hb_10o⟩ := shp_a (W9 x hLx) hkx 15 14 72 rfl (by decide)
  obtain ⟨b_11, hb_11, hb_11L, hb_11k, hb_11n, hb_11o⟩ := shp_a (W9 x hLx) hkx 20 15 13 rfl (by decide)
  have enqx : ∀ I J, NRf R I J x = NRq I J x b_10 b_11 := fun I J => by simp only [NRf, rr_, Option.getD_some, hb_10, hb_11]
  have wnqx : nqw_ L κ ow x b_10 b_11 := ⟨⟨hLx, hb_10L, hb_11L⟩, ⟨(ro_o hkx (by decide)), (ro_a hb_10k (by decide) hb_10o hkx rfl), (ro_a hb_11k (by decide) hb_11o hkx rfl)⟩⟩
  obtain ⟨s_12, hs_12⟩ : ∃ z, NRq I J x b_10 b_11 = z := ⟨_, rfl⟩
  have eqqx : ∀ I J, QTf R I J x = QTq I J x := fun I J => by simp only [QTf, rr_, Option.getD_some]
  have wqqx : qqw_ L κ ow x := ⟨hLx, (ro_o hkx (by decide))⟩
  obtain ⟨s_13, hs_13⟩ : ∃ z, QTq I J x = z := ⟨_, rfl⟩
  refine g_lo (is := [0]) (lo2 := [(0, .ref x)]) rfl ?_
  refine g_aload_n C 0 dX12_readNot_0 rfl rfl ?_
  have f_14 : s_13.om = x_2 := (congrArg QT_.om hs_13).symm.trans hx_2
  refine g_callVI C K (c_X12_readSaid_1 W9 hLx hkx   hU  (by rw [hx_1, hx_2]; omega) (hwi)) hLx hkx (by decide) rfl v_12_392 rfl ⟨rfl, rfl⟩ ⟨Nat.le_of_ble_eq_true rfl, Nat.le_of_ble_eq_true rfl⟩ (Nat.le_of_ble_eq_true rfl) ⟨Nat.le_of_ble_eq_true rfl, Nat.le_of_ble_eq_true rfl⟩ dX12_readNot_1 rfl (st := []) (fun x_15 I_16 J_17 h_18 => ?_)
  obtain ⟨hUI_16, hFI_16, hGJ_17, rx_15, fx_15, ex_15⟩ := h_18
  have hF_19 := fq_tr hF hFI_16 (by decide)
  have hG_20 := fq_tr hG hGJ_17 (by decide)
  obtain ⟨s_22, hs_22⟩ : ∃ z, MTq I_16 J_17 x b_8 = z := ⟨_, rfl⟩
  obtain ⟨s_23, hs_23⟩ : ∃ z, NRq I_16 J_17 x b_10 b_11 = z := ⟨_, rfl⟩
  obtain ⟨s_24, hs_24⟩ : ∃ z, QTq I_16 J_17 x = z := ⟨_, rfl⟩
  have c_21 : mSaid 7 (s_5) (s_7) (s_9) (s_12) (s_13) = (x_15, s_22, s_23, s_24) := by have q := fx_15; simp only [evqx, ezqx, emqx, enqx, eqqx, hs_5, hs_7, hs_9, hs_12, hs_13, hs_22, hs_23, hs_24] at q; exact q.symm
  have hs_25 : NVq I_16 J_17 x b_4 = s_5 := (vq_fq wvqx hFI_16 hGJ_17 (by decide) (by decide)).trans hs_5
  have hs_26 : NWq I_16 J_17 x b_6 = s_7 := (zq_fq wzqx hFI_16 hGJ_17 (by decide) (by decide)).trans hs_7
  obtain ⟨x_27, hx_27, rx_27⟩ := ex_getw (I := I_16) (a := x) (j := 47) (lo := 0) (hi := 60) hUI_16.1 hLx (ro_o hkx (by decide)) rfl
  obtain ⟨x_28, hx_28, rx_28⟩ := ex_getw (I := I_16) (a := x) (j := 50) (lo := 0) (hi := 59) hUI_16.1 hLx (ro_o hkx (by decide)) rfl
  obtain ⟨x_29, hx_29, rx_29⟩ := ex_getw (I := I_16) (a := x) (j := 48) (lo := 0) (hi := 20) hUI_16.1 hLx (ro_o hkx (by decide)) rfl
  have f_30 : s_24.om = x_29 := (congrArg QT_.om hs_24).symm.trans hx_29
  refine g_if_ne C (tgt := 9) dX12_readNot_4 (by decide) (fun h_31 => ?_) (fun h_31 => ?_)
  · skip
    have n_32 : ¬ x_15 = 0 := h_31
    have r_33 := ne_lo (lo := 1) n_32 rx_15 rc_0 rfl (by decide)
    have f_34 := sz_v hx_1 hx_2 hx_27 hx_29 hx_28 (ex_15.1 n_32)
    refine g_aload_n C 0 dX12_readNot_9 rfl rfl ?_
    refine g_aload_n C 0 dX12_readNot_10 rfl rfl ?_
    refine g_iconst C (v := 1) dX12_readNot_11 (by decide) ?_
    refine g_aload_n C 0 dX12_readNot_12 rfl rfl ?_
    refine g_getI C K hLx hkx f_12_386 (v := x_28) hx_28 dX12_readNot_13 ?_
    refine g_iconst C (v := 0) dX12_readNot_16 (by decide) ?_
    refine g_iconst C (v := 0) dX12_readNot_17 (by decide) ?_
    have r_35 := (show Rg 0 59 x_27 from by have q1 := rx_27; have q2 := rx_29; unfold Rg at *; omega)
    refine g_callVI C K (c_X12_saysOne W9 hLx hkx 1 x_28 0 0 (rg_w rc_1 (by decide) (by decide)) (rx_28) (rg_w rc_0 (by decide) (by decide)) hUI_16  (eq_rg hx_27 (r_35)) (by rw [hx_27]; exact ⟨fun _ => ⟨by have := (rx_28).1; omega, by omega⟩, fun q => absurd q (by decide), fun q => absurd q (by decide)⟩)) hLx hkx (by decide) rfl v_12_389 rfl ⟨rfl, rfl⟩ ⟨Nat.le_of_ble_eq_true rfl, Nat.le_of_ble_eq_true rfl⟩ (Nat.le_of_ble_eq_true rfl) ⟨Nat.le_of_ble_eq_true rfl, Nat.le_of_ble_eq_true rfl⟩ dX12_readNot_18 rfl (st := [.ref x]) (fun x_36 I_37 J_38 h_39 => ?_)
    obtain ⟨hUI_37, hFI_37, hGJ_38, rx_36, ex_36⟩ := h_39
    have hF_40 := fq_tr hF_19 hFI_37 (by decide)
    have hG_41 := fq_tr hG_20 hGJ_38 (by decide)
    have hs_42 : NVq I_37 J_38 x b_4 = s_5 := (vq_fq wvqx hFI_37 hGJ_38 (by decide) (by decide)).trans hs_25
    have hs_43 : NWq I_37 J_38 x b_6 = s_7 := (zq_fq wzqx hFI_37 hGJ_38 (by decide) (by decide)).trans hs_26
    have hs_44 : MTq I_37 J_38 x b_8 = s_22 := (mq_fq wmqx hFI_37 hGJ_38 (by decide) (by decide)).trans hs_22
    have hs_45 : NRq I_37 J_38 x b_10 b_11 = s_23 := (nq_fq wnqx hFI_37 hGJ_38 (by decide) (by decide)).trans hs_23
    have hs_46 : QTq I_37 J_38 x = s_24 := (qq_fq wqqx hFI_37 hGJ_38 (by decide) (by decide)).trans hs_24
    obtain ⟨x_47, hx_47, rx_47, tx_47, ux_47⟩ := sa_b (lo := 1) (hi := 60) ex_36 hx_27 r_35 (by decide) (by decide)
    have r_48 := (show Rg 0 59 x_36 from by have q1 := ux_47; have q2 := r_35; unfold Rg at *; omega)
    refine h_putI C K hLx hkx f_12_386 p_12_50 dX12_readNot_21 (fun I_49 hI_49 => ?_)
    have hU_50 := iw_put W9 hUI_37 hI_49 (ro_o hkx (by decide)) (lo := 0) (hi := 59) (rfl) (r_48) rfl
    have hF_51 := fq_puto hF_40 hI_49 hkx (by decide) (by decide)
    have hs_52 : NVq I_49 J_38 x b_4 = s_5 := by rw [hI_49]; exact (vq_oI wvqx (ro_o hkx (by decide)) (by decide)).trans hs_42
    have hs_53 : NWq I_49 J_38 x b_6 = s_7 := by rw [hI_49]; exact (zq_oI wzqx (ro_o hkx (by decide)) (by decide)).trans hs_43
    have hs_54 : MTq I_49 J_38 x b_8 = s_22 := by rw [hI_49]; exact (mq_uIt wmqx (by decide)).trans hs_44
    have hs_55 : NRq I_49 J_38 x b_10 b_11 = s_23 := by rw [hI_49]; exact (nq_uIt wnqx (by decide)).trans hs_45
    have hs_56 : QTq I_49 J_38 x = s_24 := by rw [hI_49]; exact (qq_uIt wqqx (by decide)).trans hs_46
    refine g_iconst C (v := 1) dX12_readNot_24 (by decide) ?_
    exact g_zret (ty := .boolean) (r := 1) B K rfl (rfl) ⟨hU_50, hF_51, hG_41, rg_w rc_1 (by decide) (by decide), (by simp only [mNtK, evqx, hs_52, hs_5, ezqx, hs_53, hs_7, emqx, hs_54, hs_9, enqx, hs_55, hs_12, eqqx, hs_56, hs_13, hx_1, hx_2, hx_3, f_14, c_21, hx_27, hx_28, hx_29, f_30, h_31, hx_47, if_true, if_false, mqM_tp, mqM_size, mqM_limit, mqM_to, mqM_frm, mqM_kind, mqM_number, mqM_sign, mqM_word, MT_.w_tp, MT_.w_size, MT_.w_limit, MT_.w_to, MT_.w_frm, MT_.w_kind, MT_.w_number, MT_.w_sign, MT_.w_word, nqM_rd, nqM_rn, nqM_taped, nqM_mfault, nqM_mplace, nqM_told, nqM_hl, nqM_hd, NR_.w_rd, NR_.w_rn, NR_.w_taped, NR_.w_mfault, NR_.w_mplace, NR_.w_told, NR_.w_hl, NR_.w_hd, qqM_om, QT_.w_om, vqM_nv, NV_.w_nv, zqM_nw, NW_.w_nw]), (fun _ => (sz_m hx_1 hx_2 (kp_j hI_49 (by decide) hx_47) (kp_j hI_49 (by decide) (fq_at hFI_37 hLx hkx (by decide) (by decide) hx_29)) (kp_s hI_49) ⟨by have := tx_47; omega, by have := tx_47; omega, by have := tx_47; omega, by have := tx_47; omega⟩)), (kp_j hI_49 (by decide) (fq_at hFI_37 hLx hkx (by decide) (by decide) ex_15.2))⟩ dX12_readNot_25
  · skip
    have r_57 := (⟨(rx_15).1, (eq_rg (h_31) rc_0).2⟩ : Rg 0 0 x_15)
    refine g_iconst C (v := 0) dX12_readNot_7 (by decide) ?_
    exact g_zret (ty := .boolean) (r := 0) B K rfl (rfl) ⟨hUI_16, hF_19, hG_20, rg_w rc_0 (by decide) (by decide), (by simp only [mNtK, evqx, hs_25, hs_5, ezqx, hs_26, hs_7, emqx, hs_22, hs_9, enqx, hs_23, hs_12, eqqx, hs_24, hs_13, hx_1, hx_2, hx_3, f_14, c_21, hx_27, hx_28, hx_29, f_30, (eq_true h_31), if_true, if_false, mqM_tp, mqM_size, mqM_limit, mqM_to, mqM_frm, mqM_kind, mqM_number, mqM_sign, mqM_word, MT_.w_tp, MT_.w_size, MT_.w_limit, MT_.w_to, MT_.w_frm, MT_.w_kind, MT_.w_number, MT_.w_sign, MT_.w_word, nqM_rd, nqM_rn, nqM_taped, nqM_mfault, nqM_mplace, nqM_told, nqM_hl, nqM_hd, NR_.w_rd, NR_.w_rn, NR_.w_taped, NR_.w_mfault, NR_.w_mplace, NR_.w_told, NR_.w_hl, NR_.w_hd, qqM_om, QT_.w_om, vqM_nv, NV_.w_nv, zqM_nw, NW_.w_nw]), (fun q => absurd rfl q), ex_15.2⟩ dX12_readNot_8
set_option maxRecDepth 100000 in
set_option maxHeartbeats 8000000 in
theorem c_X12_readSaid_0 {l : Launch} {D : va_G} {cy : Nat → ClassId} {L : List Nat} {κ ln : Nat → Nat} {R : Nat → Nat → Option Nat} {I : Nat → Nat → Int32} {J : Nat → Nat → Int64} {ow : Nat → Nat × Nat} (W9 : ∀ a ∈ L, Shp L κ ln R ow a) {x : Nat} (hLx : x ∈ L) (hkx : κ x = 12) (hU : Iw L κ R ow I) (hn : (I x 47).toInt ≤ 2 * (I x 48).toInt) (hwi : I x 49 = 0) : CtI l yX12_readSaid cX12_readSaid 4 (some .boolean) { frames := 35, cells := 0, slots := 0, locals := 749 } D cy L κ ln R I J [.ref x] (fun r I2 J2 => Iw L κ R ow I2 ∧ Fq L κ ow [1205, 1206, 1207, 1208, 1209, 1210, 1211, 1213, 1247, 1248, 1249, 1250, 86600] I I2 ∧ Fq L κ ow [1212] J J2 ∧ Rg 0 1 r ∧ ((r, MTf R I2 J2 x, NRf R I2 J2 x, QTf R I2 J2 x) = mSaid 8 (NVf R I J x) (NWf R I J x) (MTf R I J x) (NRf R I J x) (QTf R I J x)) ∧ (¬ r = 0 → Sz_ x I I2 1) ∧ (I2 x 49 = 0)) := by
  obtain ⟨x_1, hx_1, rx_1⟩ := ex_getw (I := I) (a := x) (j := 47) (lo := 0) (hi := 60) hU.1 hLx (ro_o hkx (by decide)) rfl
  obtain ⟨x_2, hx_2, rx_2⟩ := ex_getw (I := I) (a := x) (j := 48) (lo := 0) (hi := 20) hU.1 hLx (ro_o hkx (by decide)) rfl
  rw [hx_1, hx_2] at hn
  obtain ⟨x_3, hx_3, rx_3⟩ := ex_getw (I := I) (a := x) (j := 50) (lo := 0) (hi := 59) hU.1 hLx (ro_o hkx (by decide)) rfl
  refine CtI.of (by decide +kernel) (Nat.le_of_ble_eq_true rfl) ?_
  intro p e s m below meth c B K
  have C := B.1
  have hF : Fq L κ ow [1205, 1206, 1207, 1208, 1209, 1210, 1211, 1213, 1247, 1248, 1249, 1250, 86600] I I := fq_rf
  have hG : Fq L κ ow [1212] J J := fq_rf
  obtain ⟨b_4, hb_4, hb_4L, hb_4k, hb_4n, hb_4o⟩ := shp_a (W9 x hLx) hkx 19 15 13 rfl (by decide)
  have evqx : ∀ I J, NVf R I J x = NVq I J x b_4 := fun I J => by simp only [NVf, rr_, Option.getD_some, hb_4]
  have wvqx : vqw_ L κ ow x b_4 := ⟨⟨hLx, hb_4L⟩, ⟨(ro_o hkx (by decide)), (ro_a hb_4k (by decide) hb_4o hkx rfl)⟩⟩
  obtain ⟨s_5, hs_5⟩ : ∃ z, NVq I J x b_4 = z := ⟨_, rfl⟩
  obtain ⟨b_6, hb_6, hb_6L, hb_6k, hb_6n, hb_6o⟩ := shp_a (W9 x hLx) hkx 14 14 389 rfl (by decide)
  have ezqx : ∀ I J, NWf R I J x = NWq I J x b_6 := fun I J => by simp only [NWf, rr_, Option.getD_some, hb_6]
  have wzqx : zqw_ L κ ow x b_6 := ⟨⟨hLx, hb_6L⟩, ⟨(ro_o hkx (by decide)), (ro_a hb_6k (by decide) hb_6o hkx rfl)⟩⟩
  obtain ⟨s_7, hs_7⟩ : ∃ z, NWq I J x b_6 = z := ⟨_, rfl⟩
  obtain ⟨b_8, hb_8, hb_8L, hb_8k, hb_8n, hb_8o⟩ := shp_a (W9 x hLx) hkx 1 14 940 rfl (by decide)
  have emqx : ∀ I J, MTf R I J x = MTq I J x b_8 := fun I J => by simp only [MTf, rr_, Option.getD_some, hb_8]
  have wmqx : mqw_ L κ ow x b_8 := ⟨⟨hLx, hb_8L⟩, ⟨(ro_o hkx (by decide)), (ro_a hb_8k (by decide) hb_8o hkx rfl)⟩⟩
  obtain ⟨s_9, hs_9⟩ : ∃ z, MTq I J x b_8 = z := ⟨_, rfl⟩
  obtain ⟨b_10, hb_10, hb_10L, hb_10k, hb_10n, hb_10o⟩ := shp_a (W9 x hLx) hkx 15 14 72 rfl (by decide)
  obtain ⟨b_11, hb_11, hb_11L, hb_11k, hb_11n, hb_11o⟩ := shp_a (W9 x hLx) hkx 20 15 13 rfl (by decide)
  have enqx : ∀ I J, NRf R I J x = NRq I J x b_10 b_11 := fun I J => by simp only [NRf, rr_, Option.getD_some, hb_10, hb_11]
  have wnqx : nqw_ L κ ow x b_10 b_11 := ⟨⟨hLx, hb_10L, hb_11L⟩, ⟨(ro_o hkx (by decide)), (ro_a hb_10k (by decide) hb_10o hkx rfl), (ro_a hb_11k (by decide) hb_11o hkx rfl)⟩⟩
  obtain ⟨s_12, hs_12⟩ : ∃ z, NRq I J x b_10 b_11 = z := ⟨_, rfl⟩
  have eqqx : ∀ I J, QTf R I J x = QTq I J x := fun I J => by simp only [QTf, rr_, Option.getD_some]
  have wqqx : qqw_ L κ ow x := ⟨hLx, (ro_o hkx (by decide))⟩
  obtain ⟨s_13, hs_13⟩ : ∃ z, QTq I J x = z := ⟨_, rfl⟩
  refine g_lo (is := [0]) (lo2 := [(0, .ref x)]) rfl ?_
  have l_10 : ∀ (n_10 : Nat) (v_14 : Int32) (rv_14 : Rg 0 1 v_14) (v_15 : Int32) (rv_15 : Rg 18 28 v_15) (v_16 : Int32) (rv_16 : Rg 0 60 v_16) (v_17 : Int32) (rv_17 : Rg 0 20 v_17) (v_18 : Int32) (rv_18 : Rg 0 59 v_18) (v_19 : Int32) (rv_19 : Rg 0 4 v_19) (q_20 : I x 47 = v_16) (q_21 : I x 48 = v_17) (q_22 : I x 49 = 0) (q_23 : I x 50 = v_18) (q_24 : I x 7 = v_19) (hq_25 : mSd1 (mBrK 7 s_5 s_7) (mNtK 7 s_5 s_7) s_5 s_7 v_14 (mww v_15 s_9) s_9 s_12 s_13 = mSaid 8 s_5 s_7 s_9 s_12 s_13) (hj_26 : v_16.toInt = x_1.toInt ∧ v_17.toInt = x_2.toInt) (hm_27 : 28 < (v_15 : Int32).toInt + (n_10 : Int)), WG p l e { frames := 35, cells := 0, slots := 0, locals := 749 } s m ([.ref x] : List Value).toArray below meth c 4 0 0 (MQ below (Qi_ D cy L κ ln R (fun r I2 J2 => Iw L κ R ow I2 ∧ Fq L κ ow [1205, 1206, 1207, 1208, 1209, 1210, 1211, 1213, 1247, 1248, 1249, 1250, 86600] I I2 ∧ Fq L κ ow [1212] J J2 ∧ Rg 0 1 r ∧ ((r, MTf R I2 J2 x, NRf R I2 J2 x, QTf R I2 J2 x) = mSaid 8 (NVf R I J x) (NWf R I J x) (MTf R I J x) (NRf R I J x) (QTf R I J x)) ∧ (¬ r = 0 → Sz_ x I I2 1) ∧ (I2 x 49 = 0))) ([.ref x] : List Value).toArray s 0 0 (Al_ L)) D cy (Al_ L) s.heap L κ ln R I J 10 [(0, .ref x), (1, .int v_14), (2, .int v_15)] [] := by
    intro n_10
    induction n_10 with
    | zero =>
      intro v_14 rv_14 v_15 rv_15 v_16 rv_16 v_17 rv_17 v_18 rv_18 v_19 rv_19 q_20 q_21 q_22 q_23 q_24 hq_25 hj_26 hm_27
      exact ms_0 rv_15 hm_27
    | succ n_10 ih_10 =>
      intro v_14 rv_14 v_15 rv_15 v_16 rv_16 v_17 rv_17 v_18 rv_18 v_19 rv_19 q_20 q_21 q_22 q_23 q_24 hq_25 hj_26 hm_27
      have hQ_28 := hq_25.symm
      have u_29 := mww_eq (w := v_15) (m := s_9) (rg_w rv_15 (by decide) (by decide))
      refine g_iload_n C 2 dX12_readSaid_10 rfl rfl ?_
      refine g_bipush C (v := 27) dX12_readSaid_11 (by decide) ?_
      refine g_icmp_gt C (tgt := 30) dX12_readSaid_13 (by decide) (fun h_30 => ?_) (fun h_30 => ?_)
      · skip
        have r_31 := lt_r (lo := 28) (h_30) rc_27 rv_15 (by decide)
        refine g_iload_n C 1 dX12_readSaid_30 rfl rfl ?_
        refine g_if_ne C (tgt := 46) dX12_readSaid_31 (by decide) (fun h_32 => ?_) (fun h_32 => ?_)
        · skip
          have n_33 : ¬ v_14 = 0 := h_32
          have r_34 := ne_lo (lo := 1) n_33 rv_14 rc_0 rfl (by decide)
          refine g_aload_n C 0 dX12_readSaid_46 rfl rfl ?_
          have f_35 : s_13.om = v_17 := (congrArg QT_.om hs_13).symm.trans q_21
          refine g_getI C K hLx hkx f_12_395 (v := v_17) q_21 dX12_readSaid_47 ?_
          refine g_bipush C (v := 20) dX12_readSaid_50 (by decide) ?_
          refine g_icmp_eq C (tgt := 64) dX12_readSaid_52 (by decide) (fun h_36 => ?_) (fun h_36 => ?_)
          · skip
            have r_37 := (⟨(eq_rg (h_36) rc_20).1, (rv_17).2⟩ : Rg 20 20 v_17)
            refine g_aload_n C 0 dX12_readSaid_64 rfl rfl ?_
            refine g_iconst C (v := 4) dX12_readSaid_65 (by decide) ?_
            refine g_callVI C K (c_X12_bad W9 hLx hkx 4 (rg_w rc_4 (by decide) (by decide)) hU) hLx hkx (by decide) rfl v_12_146 rfl ⟨rfl, rfl⟩ ⟨Nat.le_of_ble_eq_true rfl, Nat.le_of_ble_eq_true rfl⟩ (Nat.le_of_ble_eq_true rfl) ⟨Nat.le_of_ble_eq_true rfl, Nat.le_of_ble_eq_true rfl⟩ dX12_readSaid_66 rfl (st := []) (fun x_38 I_39 J_40 h_41 => ?_)
            obtain ⟨hUI_39, hFI_39, hGJ_40, rx_38, fx_38⟩ := h_41
            have hF_42 := fq_tr hF hFI_39 (by decide)
            have hG_43 := fq_tr hG hGJ_40 (by decide)
            obtain ⟨s_45, hs_45⟩ : ∃ z, MTq I_39 J_40 x b_8 = z := ⟨_, rfl⟩
            obtain ⟨s_46, hs_46⟩ : ∃ z, NRq I_39 J_40 x b_10 b_11 = z := ⟨_, rfl⟩
            have c_44 : mBad (4) (s_9) (s_12) = (x_38, s_45, s_46) := by have q := fx_38; simp only [emqx, enqx, hs_9, hs_12, hs_45, hs_46] at q; exact q.symm
            have hs_47 : NVq I_39 J_40 x b_4 = s_5 := (vq_fq wvqx hFI_39 hGJ_40 (by decide) (by decide)).trans hs_5
            have hs_48 : NWq I_39 J_40 x b_6 = s_7 := (zq_fq wzqx hFI_39 hGJ_40 (by decide) (by decide)).trans hs_7
            have hs_49 : QTq I_39 J_40 x = s_13 := (qq_fq wqqx hFI_39 hGJ_40 (by decide) (by decide)).trans hs_13
            exact g_zret (ty := .boolean) (r := x_38) B K rfl (nar_z (rg_w rx_38 (by decide) (by decide))) ⟨hUI_39, hF_42, hG_43, rg_w rx_38 (by decide) (by decide), (by (try simp only [h_30, h_32, f_35, (eq_true h_36), c_44, if_true, if_false, mqM_tp, mqM_size, mqM_limit, mqM_to, mqM_frm, mqM_kind, mqM_number, mqM_sign, mqM_word, MT_.w_tp, MT_.w_size, MT_.w_limit, MT_.w_to, MT_.w_frm, MT_.w_kind, MT_.w_number, MT_.w_sign, MT_.w_word, nqM_rd, nqM_rn, nqM_taped, nqM_mfault, nqM_mplace, nqM_told, nqM_hl, nqM_hd, NR_.w_rd, NR_.w_rn, NR_.w_taped, NR_.w_mfault, NR_.w_mplace, NR_.w_told, NR_.w_hl, NR_.w_hd, qqM_om, QT_.w_om, vqM_nv, NV_.w_nv, zqM_nw, NW_.w_nw] at hQ_28); (try simp only [h_30, h_32, f_35, (eq_true h_36), c_44, if_true, if_false, mqM_tp, mqM_size, mqM_limit, mqM_to, mqM_frm, mqM_kind, mqM_number, mqM_sign, mqM_word, MT_.w_tp, MT_.w_size, MT_.w_limit, MT_.w_to, MT_.w_frm, MT_.w_kind, MT_.w_number, MT_.w_sign, MT_.w_word, nqM_rd, nqM_rn, nqM_taped, nqM_mfault, nqM_mplace, nqM_told, nqM_hl, nqM_hd, NR_.w_rd, NR_.w_rn, NR_.w_taped, NR_.w_mfault, NR_.w_mplace, NR_.w_told, NR_.w_hl, NR_.w_hd, qqM_om, QT_.w_om, vqM_nv, NV_.w_nv, zqM_nw, NW_.w_nw] at u_29); simp only [mSd0, mSd1, mSd2, mBadQ, evqx, hs_47, hs_5, ezqx, hs_48, hs_7, emqx, hs_45, hs_9, enqx, hs_46, hs_12, eqqx, hs_49, hs_13, hQ_28, u_29, h_30, h_32, f_35, (eq_true h_36), c_44, if_true, if_false, mqM_tp, mqM_size, mqM_limit, mqM_to, mqM_frm, mqM_kind, mqM_number, mqM_sign, mqM_word, MT_.w_tp, MT_.w_size, MT_.w_limit, MT_.w_to, MT_.w_frm, MT_.w_kind, MT_.w_number, MT_.w_sign, MT_.w_word, nqM_rd, nqM_rn, nqM_taped, nqM_mfault, nqM_mplace, nqM_told, nqM_hl, nqM_hd, NR_.w_rd, NR_.w_rn, NR_.w_taped, NR_.w_mfault, NR_.w_mplace, NR_.w_told, NR_.w_hl, NR_.w_hd, qqM_om, QT_.w_om, vqM_nv, NV_.w_nv, zqM_nw, NW_.w_nw]), (fun q => ne_no q rx_38 rc_0), (fq_at hFI_39 hLx hkx (by decide) (by decide) q_22)⟩ dX12_readSaid_69
          · skip
            have n_50 : ¬ v_17 = 20 := h_36
            have r_51 := ne_hi (hi := 19) n_50 rv_17 rc_20 rfl (by decide)
            refine g_aload_n C 0 dX12_readSaid_55 rfl rfl ?_
            refine g_getI C K hLx hkx f_12_398 (v := 0) q_22 dX12_readSaid_56 ?_
            refine g_bipush C (v := 8) dX12_readSaid_59 (by decide) ?_
            refine g_icmp_ne C (tgt := 70) dX12_readSaid_61 (by decide) (fun h_52 => ?_) (fun h_52 => ?_)
            · skip
              refine g_aload_n C 0 dX12_readSaid_70 rfl rfl ?_
              refine g_dup C dX12_readSaid_71 rfl ?_
              refine g_getI C K hLx hkx f_12_395 (v := v_17) q_21 dX12_readSaid_72 ?_
              refine g_iconst C (v := 1) dX12_readSaid_75 (by decide) ?_
              obtain ⟨x_53, hx_53, rx_53, tx_53⟩ := ex_add 1 20 r_51 rc_1 (by decide) (by decide) (by decide) (by decide)
              refine g_iadd C (v := x_53) dX12_readSaid_76 hx_53 ?_
              refine h_putI C K hLx hkx f_12_395 p_12_48 dX12_readSaid_77 (fun I_54 hI_54 => ?_)
              have hU_55 := iw_put W9 hU hI_54 (ro_o hkx (by decide)) (lo := 0) (hi := 20) (rfl) (rg_w rx_53 (by decide) (by decide)) rfl
              have hF_56 := fq_puto hF hI_54 hkx (by decide) (by decide)
              have hs_57 : NVq I_54 J x b_4 = s_5 := by rw [hI_54]; exact (vq_oI wvqx (ro_o hkx (by decide)) (by decide)).trans hs_5
              have hs_58 : NWq I_54 J x b_6 = s_7 := by rw [hI_54]; exact (zq_oI wzqx (ro_o hkx (by decide)) (by decide)).trans hs_7
              have hs_59 : MTq I_54 J x b_8 = s_9 := by rw [hI_54]; exact (mq_uIt wmqx (by decide)).trans hs_9
              have hs_60 : NRq I_54 J x b_10 b_11 = s_12 := by rw [hI_54]; exact (nq_uIt wnqx (by decide)).trans hs_12
              have hs_61 : QTq I_54 J x = (QT_.w_om s_13 (x_53)) := by rw [hI_54]; exact ((qq_om wqqx).trans (congrArg (fun z : QT_ => QT_.w_om z (x_53)) hs_13)).trans rfl
              refine g_aload_n C 0 dX12_readSaid_80 rfl rfl ?_
              refine g_dup C dX12_readSaid_81 rfl ?_
              refine g_getI C K hLx hkx f_12_398 (v := 0) (kp_j hI_54 (by decide) q_22) dX12_readSaid_82 ?_
              refine g_iconst C (v := 1) dX12_readSaid_85 (by decide) ?_
              refine g_iadd C (v := 1) dX12_readSaid_86 (by decide) ?_
              refine h_putI C K hLx hkx f_12_398 p_12_49 dX12_readSaid_87 (fun I_62 hI_62 => ?_)
              have hU_63 := iw_put W9 hU_55 hI_62 (ro_o hkx (by decide)) (lo := 0) (hi := 8) (rfl) (rg_w rc_1 (by decide) (by decide)) rfl
              have hF_64 := fq_puto hF_56 hI_62 hkx (by decide) (by decide)
              have hs_65 : NVq I_62 J x b_4 = s_5 := by rw [hI_62]; exact (vq_oI wvqx (ro_o hkx (by decide)) (by decide)).trans hs_57
              have hs_66 : NWq I_62 J x b_6 = s_7 := by rw [hI_62]; exact (zq_oI wzqx (ro_o hkx (by decide)) (by decide)).trans hs_58
              have hs_67 : MTq I_62 J x b_8 = s_9 := by rw [hI_62]; exact (mq_uIt wmqx (by decide)).trans hs_59
              have hs_68 : NRq I_62 J x b_10 b_11 = s_12 := by rw [hI_62]; exact (nq_uIt wnqx (by decide)).trans hs_60
              have hs_69 : QTq I_62 J x = (QT_.w_om s_13 (x_53)) := by rw [hI_62]; exact (qq_uIt wqqx (by decide)).trans hs_61
              refine g_aload_n C 0 dX12_readSaid_90 rfl rfl ?_
              refine g_callVV C K (c_X12_go W9 hLx hkx   hU_63) hLx hkx (by decide) rfl v_12_156 rfl ⟨rfl, rfl⟩ ⟨Nat.le_of_ble_eq_true rfl, Nat.le_of_ble_eq_true rfl⟩ (Nat.le_of_ble_eq_true rfl) ⟨Nat.le_of_ble_eq_true rfl, Nat.le_of_ble_eq_true rfl⟩ dX12_readSaid_91 rfl (st := []) (fun I_71 J_72 h_73 => ?_)
              obtain ⟨hUI_71, hFI_71, hGJ_72, fx_70, ex_70⟩ := h_73
              have hF_74 := fq_tr hF_64 hFI_71 (by decide)
              have hG_75 := fq_tr hG hGJ_72 (by decide)
              obtain ⟨s_77, hs_77⟩ : ∃ z, MTq I_71 J_72 x b_8 = z := ⟨_, rfl⟩
              have c_76 : mGo (s_9) = s_77 := by have q := fx_70; simp only [emqx, hs_67, hs_77] at q; exact q.symm
              have hs_78 : NVq I_71 J_72 x b_4 = s_5 := (vq_fq wvqx hFI_71 hGJ_72 (by decide) (by decide)).trans hs_65
              have hs_79 : NWq I_71 J_72 x b_6 = s_7 := (zq_fq wzqx hFI_71 hGJ_72 (by decide) (by decide)).trans hs_66
              have hs_80 : NRq I_71 J_72 x b_10 b_11 = s_12 := (nq_fq wnqx hFI_71 hGJ_72 (by decide) (by decide)).trans hs_68
              have hs_81 : QTq I_71 J_72 x = (QT_.w_om s_13 (x_53)) := (qq_fq wqqx hFI_71 hGJ_72 (by decide) (by decide)).trans hs_69
              refine g_iconst C (v := 1) dX12_readSaid_94 (by decide) ?_
              refine g_istore_n C dX12_readSaid_95 rfl (by decide) (lo2 := [(3, .int 1), (0, .ref x), (1, .int v_14), (2, .int v_15)]) rfl ?_
              refine g_iload_n C 2 dX12_readSaid_96 rfl rfl ?_
              refine g_if_eq C (tgt := 108) dX12_readSaid_97 (by decide) (fun h_82 => ?_) (fun h_82 => ?_)
              · skip
                exact eq_no (h_82) r_34 rc_0 (by decide)
              · skip
                have n_83 : ¬ v_14 = 0 := h_82
                refine g_aload_n C 1 dX12_readSaid_100 rfl rfl ?_
                refine g_callVI C K (c_X12_readBracket_1 W9 hLx hkx   hUI_71  (by rw [(fq_at hFI_71 hLx hkx (by decide) (by decide) (kp_j hI_62 (by decide) (kp_j hI_54 (by decide) q_20))), (fq_at hFI_71 hLx hkx (by decide) (by decide) (kp_j hI_62 (by decide) (kp_s hI_54)))]; have := (ti_k tx_53 rc_1); omega) ((fq_at hFI_71 hLx hkx (by decide) (by decide) (kp_s hI_62)))) hLx hkx (by decide) rfl v_12_401 rfl ⟨rfl, rfl⟩ ⟨Nat.le_of_ble_eq_true rfl, Nat.le_of_ble_eq_true rfl⟩ (Nat.le_of_ble_eq_true rfl) ⟨Nat.le_of_ble_eq_true rfl, Nat.le_of_ble_eq_true rfl⟩ dX12_readSaid_101 rfl (st := []) (fun x_84 I_85 J_86 h_87 => ?_)
                obtain ⟨hUI_85, hFI_85, hGJ_86, rx_84, fx_84, ex_84⟩ := h_87
                have hF_88 := fq_tr hF_74 hFI_85 (by decide)
                have hG_89 := fq_tr hG_75 hGJ_86 (by decide)
                obtain ⟨s_91, hs_91⟩ : ∃ z, MTq I_85 J_86 x b_8 = z := ⟨_, rfl⟩
                obtain ⟨s_92, hs_92⟩ : ∃ z, NRq I_85 J_86 x b_10 b_11 = z := ⟨_, rfl⟩
                obtain ⟨s_93, hs_93⟩ : ∃ z, QTq I_85 J_86 x = z := ⟨_, rfl⟩
                have c_90 : mBrK 7 (s_5) (s_7) (s_77) (s_12) ((QT_.w_om s_13 (x_53))) = (x_84, s_91, s_92, s_93) := by have q := fx_84; simp only [evqx, ezqx, emqx, enqx, eqqx, hs_78, hs_79, hs_77, hs_80, hs_81, hs_91, hs_92, hs_93] at q; exact q.symm
                have hs_94 : NVq I_85 J_86 x b_4 = s_5 := (vq_fq wvqx hFI_85 hGJ_86 (by decide) (by decide)).trans hs_78
                have hs_95 : NWq I_85 J_86 x b_6 = s_7 := (zq_fq wzqx hFI_85 hGJ_86 (by decide) (by decide)).trans hs_79
                obtain ⟨x_96, hx_96, rx_96⟩ := ex_getw (I := I_85) (a := x) (j := 47) (lo := 0) (hi := 60) hUI_85.1 hLx (ro_o hkx (by decide)) rfl
                obtain ⟨x_97, hx_97, rx_97⟩ := ex_getw (I := I_85) (a := x) (j := 50) (lo := 0) (hi := 59) hUI_85.1 hLx (ro_o hkx (by decide)) rfl
                obtain ⟨x_98, hx_98, rx_98⟩ := ex_getw (I := I_85) (a := x) (j := 48) (lo := 0) (hi := 20) hUI_85.1 hLx (ro_o hkx (by decide)) rfl
                have f_99 : s_93.om = x_98 := (congrArg QT_.om hs_93).symm.trans hx_98
                refine g_istore_n C dX12_readSaid_104 rfl (by decide) (lo2 := [(3, .int x_84), (0, .ref x), (1, .int v_14), (2, .int v_15)]) rfl ?_
                refine g_goto C (tgt := 166) dX12_readSaid_105 (by decide) ?_
                refine g_aload_n C 1 dX12_readSaid_166 rfl rfl ?_
                refine g_dup C dX12_readSaid_167 rfl ?_
                refine g_getI C K hLx hkx f_12_398 (v := 1) ex_84.2 dX12_readSaid_168 ?_
                refine g_iconst C (v := 1) dX12_readSaid_171 (by decide) ?_
                refine g_isub C (v := 0) dX12_readSaid_172 (by decide) ?_
                refine h_putI C K hLx hkx f_12_398 p_12_49 dX12_readSaid_173 (fun I_100 hI_100 => ?_)
                have hU_101 := iw_put W9 hUI_85 hI_100 (ro_o hkx (by decide)) (lo := 0) (hi := 8) (rfl) (rg_w rc_0 (by decide) (by decide)) rfl
                have hF_102 := fq_puto hF_88 hI_100 hkx (by decide) (by decide)
                have hs_103 : NVq I_100 J_86 x b_4 = s_5 := by rw [hI_100]; exact (vq_oI wvqx (ro_o hkx (by decide)) (by decide)).trans hs_94
                have hs_104 : NWq I_100 J_86 x b_6 = s_7 := by rw [hI_100]; exact (zq_oI wzqx (ro_o hkx (by decide)) (by decide)).trans hs_95
                have hs_105 : MTq I_100 J_86 x b_8 = s_91 := by rw [hI_100]; exact (mq_uIt wmqx (by decide)).trans hs_91
                have hs_106 : NRq I_100 J_86 x b_10 b_11 = s_92 := by rw [hI_100]; exact (nq_uIt wnqx (by decide)).trans hs_92
                have hs_107 : QTq I_100 J_86 x = s_93 := by rw [hI_100]; exact (qq_uIt wqqx (by decide)).trans hs_93
                refine g_iload_n C 0 dX12_readSaid_176 rfl rfl ?_
                exact g_zret (ty := .boolean) (r := x_84) B K rfl (nar_z (rx_84)) ⟨hU_101, hF_102, hG_89, rx_84, (by (try simp only [h_30, h_32, f_35, h_36, h_52, hx_53, c_76, h_82, hx_96, hx_97, hx_98, f_99, if_true, if_false, mqM_tp, mqM_size, mqM_limit, mqM_to, mqM_frm, mqM_kind, mqM_number, mqM_sign, mqM_word, MT_.w_tp, MT_.w_size, MT_.w_limit, MT_.w_to, MT_.w_frm, MT_.w_kind, MT_.w_number, MT_.w_sign, MT_.w_word, nqM_rd, nqM_rn, nqM_taped, nqM_mfault, nqM_mplace, nqM_told, nqM_hl, nqM_hd, NR_.w_rd, NR_.w_rn, NR_.w_taped, NR_.w_mfault, NR_.w_mplace, NR_.w_told, NR_.w_hl, NR_.w_hd, qqM_om, QT_.w_om, vqM_nv, NV_.w_nv, zqM_nw, NW_.w_nw] at hQ_28); (try simp only [h_30, h_32, f_35, h_36, h_52, hx_53, c_76, h_82, hx_96, hx_97, hx_98, f_99, if_true, if_false, mqM_tp, mqM_size, mqM_limit, mqM_to, mqM_frm, mqM_kind, mqM_number, mqM_sign, mqM_word, MT_.w_tp, MT_.w_size, MT_.w_limit, MT_.w_to, MT_.w_frm, MT_.w_kind, MT_.w_number, MT_.w_sign, MT_.w_word, nqM_rd, nqM_rn, nqM_taped, nqM_mfault, nqM_mplace, nqM_told, nqM_hl, nqM_hd, NR_.w_rd, NR_.w_rn, NR_.w_taped, NR_.w_mfault, NR_.w_mplace, NR_.w_told, NR_.w_hl, NR_.w_hd, qqM_om, QT_.w_om, vqM_nv, NV_.w_nv, zqM_nw, NW_.w_nw] at u_29); (try simp only [h_30, h_32, f_35, h_36, h_52, hx_53, c_76, h_82, hx_96, hx_97, hx_98, f_99, if_true, if_false, mqM_tp, mqM_size, mqM_limit, mqM_to, mqM_frm, mqM_kind, mqM_number, mqM_sign, mqM_word, MT_.w_tp, MT_.w_size, MT_.w_limit, MT_.w_to, MT_.w_frm, MT_.w_kind, MT_.w_number, MT_.w_sign, MT_.w_word, nqM_rd, nqM_rn, nqM_taped, nqM_mfault, nqM_mplace, nqM_told, nqM_hl, nqM_hd, NR_.w_rd, NR_.w_rn, NR_.w_taped, NR_.w_mfault, NR_.w_mplace, NR_.w_told, NR_.w_hl, NR_.w_hd, qqM_om, QT_.w_om, vqM_nv, NV_.w_nv, zqM_nw, NW_.w_nw] at c_90); simp only [mSd0, mSd1, mSd2, mBadQ, evqx, hs_103, hs_5, ezqx, hs_104, hs_7, emqx, hs_105, hs_9, enqx, hs_106, hs_12, eqqx, hs_107, hs_13, hQ_28, u_29, h_30, h_32, f_35, h_36, h_52, hx_53, c_76, h_82, c_90, hx_96, hx_97, hx_98, f_99, if_true, if_false, mqM_tp, mqM_size, mqM_limit, mqM_to, mqM_frm, mqM_kind, mqM_number, mqM_sign, mqM_word, MT_.w_tp, MT_.w_size, MT_.w_limit, MT_.w_to, MT_.w_frm, MT_.w_kind, MT_.w_number, MT_.w_sign, MT_.w_word, nqM_rd, nqM_rn, nqM_taped, nqM_mfault, nqM_mplace, nqM_told, nqM_hl, nqM_hd, NR_.w_rd, NR_.w_rn, NR_.w_taped, NR_.w_mfault, NR_.w_mplace, NR_.w_told, NR_.w_hl, NR_.w_hd, qqM_om, QT_.w_om, vqM_nv, NV_.w_nv, zqM_nw, NW_.w_nw]), (fun hq => by have n_108 : ¬ x_84 = 0 := hq; have r_109 := ne_lo (lo := 1) n_108 rx_84 rc_0 rfl (by decide); have f_110 := sz_v (fq_at hFI_71 hLx hkx (by decide) (by decide) (kp_j hI_62 (by decide) (kp_j hI_54 (by decide) q_20))) (fq_at hFI_71 hLx hkx (by decide) (by decide) (kp_j hI_62 (by decide) (kp_s hI_54))) hx_96 hx_98 hx_97 (ex_84.1 n_108); have f_111 := (ti_k tx_53 rc_1); exact (sz_m hx_1 hx_2 (kp_j hI_100 (by decide) hx_96) (kp_j hI_100 (by decide) hx_98) (kp_j hI_100 (by decide) hx_97) ⟨by omega, by omega, by omega, by omega⟩)), (kp_s hI_100)⟩ dX12_readSaid_177
            · skip
              exact absurd (h_52) (by decide)
        · skip
          have r_112 := (⟨(rv_14).1, (eq_rg (h_32) rc_0).2⟩ : Rg 0 0 v_14)
          refine g_iload_n C 2 dX12_readSaid_34 rfl rfl ?_
          refine g_bipush C (v := 27) dX12_readSaid_35 (by decide) ?_
          refine g_icmp_le C (tgt := 46) dX12_readSaid_37 (by decide) (fun h_113 => ?_) (fun h_113 => ?_)
          · skip
            have r_114 := le_l (h_113) r_31 rc_27
            exact rg_no r_114 (by decide)
          · skip
            refine g_aload_n C 0 dX12_readSaid_40 rfl rfl ?_
            refine g_iconst C (v := 1) dX12_readSaid_41 (by decide) ?_
            refine g_callVI C K (c_X12_bad W9 hLx hkx 1 (rg_w rc_1 (by decide) (by decide)) hU) hLx hkx (by decide) rfl v_12_146 rfl ⟨rfl, rfl⟩ ⟨Nat.le_of_ble_eq_true rfl, Nat.le_of_ble_eq_true rfl⟩ (Nat.le_of_ble_eq_true rfl) ⟨Nat.le_of_ble_eq_true rfl, Nat.le_of_ble_eq_true rfl⟩ dX12_readSaid_42 rfl (st := []) (fun x_115 I_116 J_117 h_118 => ?_)
            obtain ⟨hUI_116, hFI_116, hGJ_117, rx_115, fx_115⟩ := h_118
            have hF_119 := fq_tr hF hFI_116 (by decide)
            have hG_120 := fq_tr hG hGJ_117 (by decide)
            obtain ⟨s_122, hs_122⟩ : ∃ z, MTq I_116 J_117 x b_8 = z := ⟨_, rfl⟩
            obtain ⟨s_123, hs_123⟩ : ∃ z, NRq I_116 J_117 x b_10 b_11 = z := ⟨_, rfl⟩
            have c_121 : mBad (1) (s_9) (s_12) = (x_115, s_122, s_123) := by have q := fx_115; simp only [emqx, enqx, hs_9, hs_12, hs_122, hs_123] at q; exact q.symm
            have hs_124 : NVq I_116 J_117 x b_4 = s_5 := (vq_fq wvqx hFI_116 hGJ_117 (by decide) (by decide)).trans hs_5
            have hs_125 : NWq I_116 J_117 x b_6 = s_7 := (zq_fq wzqx hFI_116 hGJ_117 (by decide) (by decide)).trans hs_7
            have hs_126 : QTq I_116 J_117 x = s_13 := (qq_fq wqqx hFI_116 hGJ_117 (by decide) (by decide)).trans hs_13
            exact g_zret (ty := .boolean) (r := x_115) B K rfl (nar_z (rg_w rx_115 (by decide) (by decide))) ⟨hUI_116, hF_119, hG_120, rg_w rx_115 (by decide) (by decide), (by (try simp only [h_30, (eq_true h_32), h_113, (nle h_113), c_121, if_true, if_false, mqM_tp, mqM_size, mqM_limit, mqM_to, mqM_frm, mqM_kind, mqM_number, mqM_sign, mqM_word, MT_.w_tp, MT_.w_size, MT_.w_limit, MT_.w_to, MT_.w_frm, MT_.w_kind, MT_.w_number, MT_.w_sign, MT_.w_word, nqM_rd, nqM_rn, nqM_taped, nqM_mfault, nqM_mplace, nqM_told, nqM_hl, nqM_hd, NR_.w_rd, NR_.w_rn, NR_.w_taped, NR_.w_mfault, NR_.w_mplace, NR_.w_told, NR_.w_hl, NR_.w_hd, qqM_om, QT_.w_om, vqM_nv, NV_.w_nv, zqM_nw, NW_.w_nw] at hQ_28); (try simp only [h_30, (eq_true h_32), h_113, (nle h_113), c_121, if_true, if_false, mqM_tp, mqM_size, mqM_limit, mqM_to, mqM_frm, mqM_kind, mqM_number, mqM_sign, mqM_word, MT_.w_tp, MT_.w_size, MT_.w_limit, MT_.w_to, MT_.w_frm, MT_.w_kind, MT_.w_number, MT_.w_sign, MT_.w_word, nqM_rd, nqM_rn, nqM_taped, nqM_mfault, nqM_mplace, nqM_told, nqM_hl, nqM_hd, NR_.w_rd, NR_.w_rn, NR_.w_taped, NR_.w_mfault, NR_.w_mplace, NR_.w_told, NR_.w_hl, NR_.w_hd, qqM_om, QT_.w_om, vqM_nv, NV_.w_nv, zqM_nw, NW_.w_nw] at u_29); simp only [mSd0, mSd1, mSd2, mBadQ, evqx, hs_124, hs_5, ezqx, hs_125, hs_7, emqx, hs_122, hs_9, enqx, hs_123, hs_12, eqqx, hs_126, hs_13, hQ_28, u_29, h_30, (eq_true h_32), h_113, (nle h_113), c_121, if_true, if_false, mqM_tp, mqM_size, mqM_limit, mqM_to, mqM_frm, mqM_kind, mqM_number, mqM_sign, mqM_word, MT_.w_tp, MT_.w_size, MT_.w_limit, MT_.w_to, MT_.w_frm, MT_.w_kind, MT_.w_number, MT_.w_sign, MT_.w_word, nqM_rd, nqM_rn, nqM_taped, nqM_mfault, nqM_mplace, nqM_told, nqM_hl, nqM_hd, NR_.w_rd, NR_.w_rn, NR_.w_taped, NR_.w_mfault, NR_.w_mplace, NR_.w_told, NR_.w_hl, NR_.w_hd, qqM_om, QT_.w_om, vqM_nv, NV_.w_nv, zqM_nw, NW_.w_nw]), (fun q => ne_no q rx_115 rc_0), (fq_at hFI_116 hLx hkx (by decide) (by decide) q_22)⟩ dX12_readSaid_45
      · skip
        have r_127 := le_l (nlt h_30) rv_15 rc_27
        refine g_aload_n C 0 dX12_readSaid_16 rfl rfl ?_
        refine g_iload_n C 2 dX12_readSaid_17 rfl rfl ?_
        refine g_callVI C K (c_X12_isWord W9 hLx hkx v_15 (rg_w r_127 (by decide) (by decide)) hU) hLx hkx (by decide) rfl v_12_191 rfl ⟨rfl, rfl⟩ ⟨Nat.le_of_ble_eq_true rfl, Nat.le_of_ble_eq_true rfl⟩ (Nat.le_of_ble_eq_true rfl) ⟨Nat.le_of_ble_eq_true rfl, Nat.le_of_ble_eq_true rfl⟩ dX12_readSaid_18 rfl (st := []) (fun x_128 I_129 J_130 h_131 => ?_)
        obtain ⟨rfl, rfl, rx_128, fx_128⟩ := h_131
        have c_132 : mIsWord (v_15) (s_9) = x_128 := by have q := fx_128; simp only [emqx, hs_9] at q; exact q.symm
        refine g_if_ne C (tgt := 30) dX12_readSaid_21 (by decide) (fun h_133 => ?_) (fun h_133 => ?_)
        · skip
          have n_134 : ¬ x_128 = 0 := h_133
          have r_135 := ne_lo (lo := 1) n_134 rx_128 rc_0 rfl (by decide)
          refine g_iload_n C 1 dX12_readSaid_30 rfl rfl ?_
          refine g_if_ne C (tgt := 46) dX12_readSaid_31 (by decide) (fun h_136 => ?_) (fun h_136 => ?_)
          · skip
            have n_137 : ¬ v_14 = 0 := h_136
            have r_138 := ne_lo (lo := 1) n_137 rv_14 rc_0 rfl (by decide)
            refine g_aload_n C 0 dX12_readSaid_46 rfl rfl ?_
            have f_139 : s_13.om = v_17 := (congrArg QT_.om hs_13).symm.trans q_21
            refine g_getI C K hLx hkx f_12_395 (v := v_17) q_21 dX12_readSaid_47 ?_
            refine g_bipush C (v := 20) dX12_readSaid_50 (by decide) ?_
            refine g_icmp_eq C (tgt := 64) dX12_readSaid_52 (by decide) (fun h_140 => ?_) (fun h_140 => ?_)
            · skip
              have r_141 := (⟨(eq_rg (h_140) rc_20).1, (rv_17).2⟩ : Rg 20 20 v_17)
              refine g_aload_n C 0 dX12_readSaid_64 rfl rfl ?_
              refine g_iconst C (v := 4) dX12_readSaid_65 (by decide) ?_
              refine g_callVI C K (c_X12_bad W9 hLx hkx 4 (rg_w rc_4 (by decide) (by decide)) hU) hLx hkx (by decide) rfl v_12_146 rfl ⟨rfl, rfl⟩ ⟨Nat.le_of_ble_eq_true rfl, Nat.le_of_ble_eq_true rfl⟩ (Nat.le_of_ble_eq_true rfl) ⟨Nat.le_of_ble_eq_true rfl, Nat.le_of_ble_eq_true rfl⟩ dX12_readSaid_66 rfl (st := []) (fun x_142 I_143 J_144 h_145 => ?_)
              obtain ⟨hUI_143, hFI_143, hGJ_144, rx_142, fx_142⟩ := h_145
              have hF_146 := fq_tr hF hFI_143 (by decide)
              have hG_147 := fq_tr hG hGJ_144 (by decide)
              obtain ⟨s_149, hs_149⟩ : ∃ z, MTq I_143 J_144 x b_8 = z := ⟨_, rfl⟩
              obtain ⟨s_150, hs_150⟩ : ∃ z, NRq I_143 J_144 x b_10 b_11 = z := ⟨_, rfl⟩
              have c_148 : mBad (4) (s_9) (s_12) = (x_142, s_149, s_150) := by have q := fx_142; simp only [emqx, enqx, hs_9, hs_12, hs_149, hs_150] at q; exact q.symm
              have hs_151 : NVq I_143 J_144 x b_4 = s_5 := (vq_fq wvqx hFI_143 hGJ_144 (by decide) (by decide)).trans hs_5
              have hs_152 : NWq I_143 J_144 x b_6 = s_7 := (zq_fq wzqx hFI_143 hGJ_144 (by decide) (by decide)).trans hs_7
              have hs_153 : QTq I_143 J_144 x = s_13 := (qq_fq wqqx hFI_143 hGJ_144 (by decide) (by decide)).trans hs_13
              exact g_zret (ty := .boolean) (r := x_142) B K rfl (nar_z (rg_w rx_142 (by decide) (by decide))) ⟨hUI_143, hF_146, hG_147, rg_w rx_142 (by decide) (by decide), (by (try simp only [h_30, (nlt h_30), c_132, h_133, h_136, f_139, (eq_true h_140), c_148, if_true, if_false, mqM_tp, mqM_size, mqM_limit, mqM_to, mqM_frm, mqM_kind, mqM_number, mqM_sign, mqM_word, MT_.w_tp, MT_.w_size, MT_.w_limit, MT_.w_to, MT_.w_frm, MT_.w_kind, MT_.w_number, MT_.w_sign, MT_.w_word, nqM_rd, nqM_rn, nqM_taped, nqM_mfault, nqM_mplace, nqM_told, nqM_hl, nqM_hd, NR_.w_rd, NR_.w_rn, NR_.w_taped, NR_.w_mfault, NR_.w_mplace, NR_.w_told, NR_.w_hl, NR_.w_hd, qqM_om, QT_.w_om, vqM_nv, NV_.w_nv, zqM_nw, NW_.w_nw] at hQ_28); (try simp only [h_30, (nlt h_30), c_132, h_133, h_136, f_139, (eq_true h_140), c_148, if_true, if_false, mqM_tp, mqM_size, mqM_limit, mqM_to, mqM_frm, mqM_kind, mqM_number, mqM_sign, mqM_word, MT_.w_tp, MT_.w_size, MT_.w_limit, MT_.w_to, MT_.w_frm, MT_.w_kind, MT_.w_number, MT_.w_sign, MT_.w_word, nqM_rd, nqM_rn, nqM_taped, nqM_mfault, nqM_mplace, nqM_told, nqM_hl, nqM_hd, NR_.w_rd, NR_.w_rn, NR_.w_taped, NR_.w_mfault, NR_.w_mplace, NR_.w_told, NR_.w_hl, NR_.w_hd, qqM_om, QT_.w_om, vqM_nv, NV_.w_nv, zqM_nw, NW_.w_nw] at u_29); simp only [mSd0, mSd1, mSd2, mBadQ, evqx, hs_151, hs_5, ezqx, hs_152, hs_7, emqx, hs_149, hs_9, enqx, hs_150, hs_12, eqqx, hs_153, hs_13, hQ_28, u_29, h_30, (nlt h_30), c_132, h_133, h_136, f_139, (eq_true h_140), c_148, if_true, if_false, mqM_tp, mqM_size, mqM_limit, mqM_to, mqM_frm, mqM_kind, mqM_number, mqM_sign, mqM_word, MT_.w_tp, MT_.w_size, MT_.w_limit, MT_.w_to, MT_.w_frm, MT_.w_kind, MT_.w_number, MT_.w_sign, MT_.w_word, nqM_rd, nqM_rn, nqM_taped, nqM_mfault, nqM_mplace, nqM_told, nqM_hl, nqM_hd, NR_.w_rd, NR_.w_rn, NR_.w_taped, NR_.w_mfault, NR_.w_mplace, NR_.w_told, NR_.w_hl, NR_.w_hd, qqM_om, QT_.w_om, vqM_nv, NV_.w_nv, zqM_nw, NW_.w_nw]), (fun q => ne_no q rx_142 rc_0), (fq_at hFI_143 hLx hkx (by decide) (by decide) q_22)⟩ dX12_readSaid_69
            · skip
              have n_154 : ¬ v_17 = 20 := h_140
              have r_155 := ne_hi (hi := 19) n_154 rv_17 rc_20 rfl (by decide)
              refine g_aload_n C 0 dX12_readSaid_55 rfl rfl ?_
              refine g_getI C K hLx hkx f_12_398 (v := 0) q_22 dX12_readSaid_56 ?_
              refine g_bipush C (v := 8) dX12_readSaid_59 (by decide) ?_
              refine g_icmp_ne C (tgt := 70) dX12_readSaid_61 (by decide) (fun h_156 => ?_) (fun h_156 => ?_)
              · skip
                refine g_aload_n C 0 dX12_readSaid_70 rfl rfl ?_
                refine g_dup C dX12_readSaid_71 rfl ?_
                refine g_getI C K hLx hkx f_12_395 (v := v_17) q_21 dX12_readSaid_72 ?_
                refine g_iconst C (v := 1) dX12_readSaid_75 (by decide) ?_
                obtain ⟨x_157, hx_157, rx_157, tx_157⟩ := ex_add 1 20 r_155 rc_1 (by decide) (by decide) (by decide) (by decide)
                refine g_iadd C (v := x_157) dX12_readSaid_76 hx_157 ?_
                refine h_putI C K hLx hkx f_12_395 p_12_48 dX12_readSaid_77 (fun I_158 hI_158 => ?_)
                have hU_159 := iw_put W9 hU hI_158 (ro_o hkx (by decide)) (lo := 0) (hi := 20) (rfl) (rg_w rx_157 (by decide) (by decide)) rfl
                have hF_160 := fq_puto hF hI_158 hkx (by decide) (by decide)
                have hs_161 : NVq I_158 J x b_4 = s_5 := by rw [hI_158]; exact (vq_oI wvqx (ro_o hkx (by decide)) (by decide)).trans hs_5
                have hs_162 : NWq I_158 J x b_6 = s_7 := by rw [hI_158]; exact (zq_oI wzqx (ro_o hkx (by decide)) (by decide)).trans hs_7
                have hs_163 : MTq I_158 J x b_8 = s_9 := by rw [hI_158]; exact (mq_uIt wmqx (by decide)).trans hs_9
                have hs_164 : NRq I_158 J x b_10 b_11 = s_12 := by rw [hI_158]; exact (nq_uIt wnqx (by decide)).trans hs_12
                have hs_165 : QTq I_158 J x = (QT_.w_om s_13 (x_157)) := by rw [hI_158]; exact ((qq_om wqqx).trans (congrArg (fun z : QT_ => QT_.w_om z (x_157)) hs_13)).trans rfl
                refine g_aload_n C 0 dX12_readSaid_80 rfl rfl ?_
                refine g_dup C dX12_readSaid_81 rfl ?_
                refine g_getI C K hLx hkx f_12_398 (v := 0) (kp_j hI_158 (by decide) q_22) dX12_readSaid_82 ?_
                refine g_iconst C (v := 1) dX12_readSaid_85 (by decide) ?_
                refine g_iadd C (v := 1) dX12_readSaid_86 (by decide) ?_
                refine h_putI C K hLx hkx f_12_398 p_12_49 dX12_readSaid_87 (fun I_166 hI_166 => ?_)
                have hU_167 := iw_put W9 hU_159 hI_166 (ro_o hkx (by decide)) (lo := 0) (hi := 8) (rfl) (rg_w rc_1 (by decide) (by decide)) rfl
                have hF_168 := fq_puto hF_160 hI_166 hkx (by decide) (by decide)
                have hs_169 : NVq I_166 J x b_4 = s_5 := by rw [hI_166]; exact (vq_oI wvqx (ro_o hkx (by decide)) (by decide)).trans hs_161
                have hs_170 : NWq I_166 J x b_6 = s_7 := by rw [hI_166]; exact (zq_oI wzqx (ro_o hkx (by decide)) (by decide)).trans hs_162
                have hs_171 : MTq I_166 J x b_8 = s_9 := by rw [hI_166]; exact (mq_uIt wmqx (by decide)).trans hs_163
                have hs_172 : NRq I_166 J x b_10 b_11 = s_12 := by rw [hI_166]; exact (nq_uIt wnqx (by decide)).trans hs_164
                have hs_173 : QTq I_166 J x = (QT_.w_om s_13 (x_157)) := by rw [hI_166]; exact (qq_uIt wqqx (by decide)).trans hs_165
                refine g_aload_n C 0 dX12_readSaid_90 rfl rfl ?_
                refine g_callVV C K (c_X12_go W9 hLx hkx   hU_167) hLx hkx (by decide) rfl v_12_156 rfl ⟨rfl, rfl⟩ ⟨Nat.le_of_ble_eq_true rfl, Nat.le_of_ble_eq_true rfl⟩ (Nat.le_of_ble_eq_true rfl) ⟨Nat.le_of_ble_eq_true rfl, Nat.le_of_ble_eq_true rfl⟩ dX12_readSaid_91 rfl (st := []) (fun I_175 J_176 h_177 => ?_)
                obtain ⟨hUI_175, hFI_175, hGJ_176, fx_174, ex_174⟩ := h_177
                have hF_178 := fq_tr hF_168 hFI_175 (by decide)
                have hG_179 := fq_tr hG hGJ_176 (by decide)
                obtain ⟨s_181, hs_181⟩ : ∃ z, MTq I_175 J_176 x b_8 = z := ⟨_, rfl⟩
                have c_180 : mGo (s_9) = s_181 := by have q := fx_174; simp only [emqx, hs_171, hs_181] at q; exact q.symm
                have hs_182 : NVq I_175 J_176 x b_4 = s_5 := (vq_fq wvqx hFI_175 hGJ_176 (by decide) (by decide)).trans hs_169
                have hs_183 : NWq I_175 J_176 x b_6 = s_7 := (zq_fq wzqx hFI_175 hGJ_176 (by decide) (by decide)).trans hs_170
                have hs_184 : NRq I_175 J_176 x b_10 b_11 = s_12 := (nq_fq wnqx hFI_175 hGJ_176 (by decide) (by decide)).trans hs_172
                have hs_185 : QTq I_175 J_176 x = (QT_.w_om s_13 (x_157)) := (qq_fq wqqx hFI_175 hGJ_176 (by decide) (by decide)).trans hs_173
                refine g_iconst C (v := 1) dX12_readSaid_94 (by decide) ?_
                refine g_istore_n C dX12_readSaid_95 rfl (by decide) (lo2 := [(3, .int 1), (0, .ref x), (1, .int v_14), (2, .int v_15)]) rfl ?_
                refine g_iload_n C 2 dX12_readSaid_96 rfl rfl ?_
                refine g_if_eq C (tgt := 108) dX12_readSaid_97 (by decide) (fun h_186 => ?_) (fun h_186 => ?_)
                · skip
                  exact eq_no (h_186) r_138 rc_0 (by decide)
                · skip
                  have n_187 : ¬ v_14 = 0 := h_186
                  refine g_aload_n C 1 dX12_readSaid_100 rfl rfl ?_
                  refine g_callVI C K (c_X12_readBracket_1 W9 hLx hkx   hUI_175  (by rw [(fq_at hFI_175 hLx hkx (by decide) (by decide) (kp_j hI_166 (by decide) (kp_j hI_158 (by decide) q_20))), (fq_at hFI_175 hLx hkx (by decide) (by decide) (kp_j hI_166 (by decide) (kp_s hI_158)))]; have := (ti_k tx_157 rc_1); omega) ((fq_at hFI_175 hLx hkx (by decide) (by decide) (kp_s hI_166)))) hLx hkx (by decide) rfl v_12_401 rfl ⟨rfl, rfl⟩ ⟨Nat.le_of_ble_eq_true rfl, Nat.le_of_ble_eq_true rfl⟩ (Nat.le_of_ble_eq_true rfl) ⟨Nat.le_of_ble_eq_true rfl, Nat.le_of_ble_eq_true rfl⟩ dX12_readSaid_101 rfl (st := []) (fun x_188 I_189 J_190 h_191 => ?_)
                  obtain ⟨hUI_189, hFI_189, hGJ_190, rx_188, fx_188, ex_188⟩ := h_191
                  have hF_192 := fq_tr hF_178 hFI_189 (by decide)
                  have hG_193 := fq_tr hG_179 hGJ_190 (by decide)
                  obtain ⟨s_195, hs_195⟩ : ∃ z, MTq I_189 J_190 x b_8 = z := ⟨_, rfl⟩
                  obtain ⟨s_196, hs_196⟩ : ∃ z, NRq I_189 J_190 x b_10 b_11 = z := ⟨_, rfl⟩
                  obtain ⟨s_197, hs_197⟩ : ∃ z, QTq I_189 J_190 x = z := ⟨_, rfl⟩
                  have c_194 : mBrK 7 (s_5) (s_7) (s_181) (s_12) ((QT_.w_om s_13 (x_157))) = (x_188, s_195, s_196, s_197) := by have q := fx_188; simp only [evqx, ezqx, emqx, enqx, eqqx, hs_182, hs_183, hs_181, hs_184, hs_185, hs_195, hs_196, hs_197] at q; exact q.symm
                  have hs_198 : NVq I_189 J_190 x b_4 = s_5 := (vq_fq wvqx hFI_189 hGJ_190 (by decide) (by decide)).trans hs_182
                  have hs_199 : NWq I_189 J_190 x b_6 = s_7 := (zq_fq wzqx hFI_189 hGJ_190 (by decide) (by decide)).trans hs_183
                  obtain ⟨x_200, hx_200, rx_200⟩ := ex_getw (I := I_189) (a := x) (j := 47) (lo := 0) (hi := 60) hUI_189.1 hLx (ro_o hkx (by decide)) rfl
                  obtain ⟨x_201, hx_201, rx_201⟩ := ex_getw (I := I_189) (a := x) (j := 50) (lo := 0) (hi := 59) hUI_189.1 hLx (ro_o hkx (by decide)) rfl
                  obtain ⟨x_202, hx_202, rx_202⟩ := ex_getw (I := I_189) (a := x) (j := 48) (lo := 0) (hi := 20) hUI_189.1 hLx (ro_o hkx (by decide)) rfl
                  have f_203 : s_197.om = x_202 := (congrArg QT_.om hs_197).symm.trans hx_202
                  refine g_istore_n C dX12_readSaid_104 rfl (by decide) (lo2 := [(3, .int x_188), (0, .ref x), (1, .int v_14), (2, .int v_15)]) rfl ?_
                  refine g_goto C (tgt := 166) dX12_readSaid_105 (by decide) ?_
                  refine g_aload_n C 1 dX12_readSaid_166 rfl rfl ?_
                  refine g_dup C dX12_readSaid_167 rfl ?_
                  refine g_getI C K hLx hkx f_12_398 (v := 1) ex_188.2 dX12_readSaid_168 ?_
                  refine g_iconst C (v := 1) dX12_readSaid_171 (by decide) ?_
                  refine g_isub C (v := 0) dX12_readSaid_172 (by decide) ?_
                  refine h_putI C K hLx hkx f_12_398 p_12_49 dX12_readSaid_173 (fun I_204 hI_204 => ?_)
                  have hU_205 := iw_put W9 hUI_189 hI_204 (ro_o hkx (by decide)) (lo := 0) (hi := 8) (rfl) (rg_w rc_0 (by decide) (by decide)) rfl
                  have hF_206 := fq_puto hF_192 hI_204 hkx (by decide) (by decide)
                  have hs_207 : NVq I_204 J_190 x b_4 = s_5 := by rw [hI_204]; exact (vq_oI wvqx (ro_o hkx (by decide)) (by decide)).trans hs_198
                  have hs_208 : NWq I_204 J_190 x b_6 = s_7 := by rw [hI_204]; exact (zq_oI wzqx (ro_o hkx (by decide)) (by decide)).trans hs_199
                  have hs_209 : MTq I_204 J_190 x b_8 = s_195 := by rw [hI_204]; exact (mq_uIt wmqx (by decide)).trans hs_195
                  have hs_210 : NRq I_204 J_190 x b_10 b_11 = s_196 := by rw [hI_204]; exact (nq_uIt wnqx (by decide)).trans hs_196
                  have hs_211 : QTq I_204 J_190 x = s_197 := by rw [hI_204]; exact (qq_uIt wqqx (by decide)).trans hs_197
                  refine g_iload_n C 0 dX12_readSaid_176 rfl rfl ?_
                  exact g_zret (ty := .boolean) (r := x_188) B K rfl (nar_z (rx_188)) ⟨hU_205, hF_206, hG_193, rx_188, (by (try simp only [h_30, (nlt h_30), c_132, h_133, h_136, f_139, h_140, h_156, hx_157, c_180, h_186, hx_200, hx_201, hx_202, f_203, if_true, if_false, mqM_tp, mqM_size, mqM_limit, mqM_to, mqM_frm, mqM_kind, mqM_number, mqM_sign, mqM_word, MT_.w_tp, MT_.w_size, MT_.w_limit, MT_.w_to, MT_.w_frm, MT_.w_kind, MT_.w_number, MT_.w_sign, MT_.w_word, nqM_rd, nqM_rn, nqM_taped, nqM_mfault, nqM_mplace, nqM_told, nqM_hl, nqM_hd, NR_.w_rd, NR_.w_rn, NR_.w_taped, NR_.w_mfault, NR_.w_mplace, NR_.w_told, NR_.w_hl, NR_.w_hd, qqM_om, QT_.w_om, vqM_nv, NV_.w_nv, zqM_nw, NW_.w_nw] at hQ_28); (try simp only [h_30, (nlt h_30), c_132, h_133, h_136, f_139, h_140, h_156, hx_157, c_180, h_186, hx_200, hx_201, hx_202, f_203, if_true, if_false, mqM_tp, mqM_size, mqM_limit, mqM_to, mqM_frm, mqM_kind, mqM_number, mqM_sign, mqM_word, MT_.w_tp, MT_.w_size, MT_.w_limit, MT_.w_to, MT_.w_frm, MT_.w_kind, MT_.w_number, MT_.w_sign, MT_.w_word, nqM_rd, nqM_rn, nqM_taped, nqM_mfault, nqM_mplace, nqM_told, nqM_hl, nqM_hd, NR_.w_rd, NR_.w_rn, NR_.w_taped, NR_.w_mfault, NR_.w_mplace, NR_.w_told, NR_.w_hl, NR_.w_hd, qqM_om, QT_.w_om, vqM_nv, NV_.w_nv, zqM_nw, NW_.w_nw] at u_29); (try simp only [h_30, (nlt h_30), c_132, h_133, h_136, f_139, h_140, h_156, hx_157, c_180, h_186, hx_200, hx_201, hx_202, f_203, if_true, if_false, mqM_tp, mqM_size, mqM_limit, mqM_to, mqM_frm, mqM_kind, mqM_number, mqM_sign, mqM_word, MT_.w_tp, MT_.w_size, MT_.w_limit, MT_.w_to, MT_.w_frm, MT_.w_kind, MT_.w_number, MT_.w_sign, MT_.w_word, nqM_rd, nqM_rn, nqM_taped, nqM_mfault, nqM_mplace, nqM_told, nqM_hl, nqM_hd, NR_.w_rd, NR_.w_rn, NR_.w_taped, NR_.w_mfault, NR_.w_mplace, NR_.w_told, NR_.w_hl, NR_.w_hd, qqM_om, QT_.w_om, vqM_nv, NV_.w_nv, zqM_nw, NW_.w_nw] at c_194); simp only [mSd0, mSd1, mSd2, mBadQ, evqx, hs_207, hs_5, ezqx, hs_208, hs_7, emqx, hs_209, hs_9, enqx, hs_210, hs_12, eqqx, hs_211, hs_13, hQ_28, u_29, h_30, (nlt h_30), c_132, h_133, h_136, f_139, h_140, h_156, hx_157, c_180, h_186, c_194, hx_200, hx_201, hx_202, f_203, if_true, if_false, mqM_tp, mqM_size, mqM_limit, mqM_to, mqM_frm, mqM_kind, mqM_number, mqM_sign, mqM_word, MT_.w_tp, MT_.w_size, MT_.w_limit, MT_.w_to, MT_.w_frm, MT_.w_kind, MT_.w_number, MT_.w_sign, MT_.w_word, nqM_rd, nqM_rn, nqM_taped, nqM_mfault, nqM_mplace, nqM_told, nqM_hl, nqM_hd, NR_.w_rd, NR_.w_rn, NR_.w_taped, NR_.w_mfault, NR_.w_mplace, NR_.w_told, NR_.w_hl, NR_.w_hd, qqM_om, QT_.w_om, vqM_nv, NV_.w_nv, zqM_nw, NW_.w_nw]), (fun hq => by have n_212 : ¬ x_188 = 0 := hq; have r_213 := ne_lo (lo := 1) n_212 rx_188 rc_0 rfl (by decide); have f_214 := sz_v (fq_at hFI_175 hLx hkx (by decide) (by decide) (kp_j hI_166 (by decide) (kp_j hI_158 (by decide) q_20))) (fq_at hFI_175 hLx hkx (by decide) (by decide) (kp_j hI_166 (by decide) (kp_s hI_158))) hx_200 hx_202 hx_201 (ex_188.1 n_212); have f_215 := (ti_k tx_157 rc_1); exact (sz_m hx_1 hx_2 (kp_j hI_204 (by decide) hx_200) (kp_j hI_204 (by decide) hx_202) (kp_j hI_204 (by decide) hx_201) ⟨by omega, by omega, by omega, by omega⟩)), (kp_s hI_204)⟩ dX12_readSaid_177
              · skip
                exact absurd (h_156) (by decide)
          · skip
            have r_216 := (⟨(rv_14).1, (eq_rg (h_136) rc_0).2⟩ : Rg 0 0 v_14)
            refine g_iload_n C 2 dX12_readSaid_34 rfl rfl ?_
            refine g_bipush C (v := 27) dX12_readSaid_35 (by decide) ?_
            refine g_icmp_le C (tgt := 46) dX12_readSaid_37 (by decide) (fun h_217 => ?_) (fun h_217 => ?_)
            · skip
              refine g_aload_n C 0 dX12_readSaid_46 rfl rfl ?_
              have f_218 : s_13.om = v_17 := (congrArg QT_.om hs_13).symm.trans q_21
              refine g_getI C K hLx hkx f_12_395 (v := v_17) q_21 dX12_readSaid_47 ?_
              refine g_bipush C (v := 20) dX12_readSaid_50 (by decide) ?_
              refine g_icmp_eq C (tgt := 64) dX12_readSaid_52 (by decide) (fun h_219 => ?_) (fun h_219 => ?_)
              · skip
                have r_220 := (⟨(eq_rg (h_219) rc_20).1, (rv_17).2⟩ : Rg 20 20 v_17)
                refine g_aload_n C 0 dX12_readSaid_64 rfl rfl ?_
                refine g_iconst C (v := 4) dX12_readSaid_65 (by decide) ?_
                refine g_callVI C K (c_X12_bad W9 hLx hkx 4 (rg_w rc_4 (by decide) (by decide)) hU) hLx hkx (by decide) rfl v_12_146 rfl ⟨rfl, rfl⟩ ⟨Nat.le_of_ble_eq_true rfl, Nat.le_of_ble_eq_true rfl⟩ (Nat.le_of_ble_eq_true rfl) ⟨Nat.le_of_ble_eq_true rfl, Nat.le_of_ble_eq_true rfl⟩ dX12_readSaid_66 rfl (st := []) (fun x_221 I_222 J_223 h_224 => ?_)
                obtain ⟨hUI_222, hFI_222, hGJ_223, rx_221, fx_221⟩ := h_224
                have hF_225 := fq_tr hF hFI_222 (by decide)
                have hG_226 := fq_tr hG hGJ_223 (by decide)
                obtain ⟨s_228, hs_228⟩ : ∃ z, MTq I_222 J_223 x b_8 = z := ⟨_, rfl⟩
                obtain ⟨s_229, hs_229⟩ : ∃ z, NRq I_222 J_223 x b_10 b_11 = z := ⟨_, rfl⟩
                have c_227 : mBad (4) (s_9) (s_12) = (x_221, s_228, s_229) := by have q := fx_221; simp only [emqx, enqx, hs_9, hs_12, hs_228, hs_229] at q; exact q.symm
                have hs_230 : NVq I_222 J_223 x b_4 = s_5 := (vq_fq wvqx hFI_222 hGJ_223 (by decide) (by decide)).trans hs_5
                have hs_231 : NWq I_222 J_223 x b_6 = s_7 := (zq_fq wzqx hFI_222 hGJ_223 (by decide) (by decide)).trans hs_7
                have hs_232 : QTq I_222 J_223 x = s_13 := (qq_fq wqqx hFI_222 hGJ_223 (by decide) (by decide)).trans hs_13
                exact g_zret (ty := .boolean) (r := x_221) B K rfl (nar_z (rg_w rx_221 (by decide) (by decide))) ⟨hUI_222, hF_225, hG_226, rg_w rx_221 (by decide) (by decide), (by (try simp only [h_30, (nlt h_30), c_132, h_133, (eq_true h_136), h_217, f_218, (eq_true h_219), c_227, if_true, if_false, mqM_tp, mqM_size, mqM_limit, mqM_to, mqM_frm, mqM_kind, mqM_number, mqM_sign, mqM_word, MT_.w_tp, MT_.w_size, MT_.w_limit, MT_.w_to, MT_.w_frm, MT_.w_kind, MT_.w_number, MT_.w_sign, MT_.w_word, nqM_rd, nqM_rn, nqM_taped, nqM_mfault, nqM_mplace, nqM_told, nqM_hl, nqM_hd, NR_.w_rd, NR_.w_rn, NR_.w_taped, NR_.w_mfault, NR_.w_mplace, NR_.w_told, NR_.w_hl, NR_.w_hd, qqM_om, QT_.w_om, vqM_nv, NV_.w_nv, zqM_nw, NW_.w_nw] at hQ_28); (try simp only [h_30, (nlt h_30), c_132, h_133, (eq_true h_136), h_217, f_218, (eq_true h_219), c_227, if_true, if_false, mqM_tp, mqM_size, mqM_limit, mqM_to, mqM_frm, mqM_kind, mqM_number, mqM_sign, mqM_word, MT_.w_tp, MT_.w_size, MT_.w_limit, MT_.w_to, MT_.w_frm, MT_.w_kind, MT_.w_number, MT_.w_sign, MT_.w_word, nqM_rd, nqM_rn, nqM_taped, nqM_mfault, nqM_mplace, nqM_told, nqM_hl, nqM_hd, NR_.w_rd, NR_.w_rn, NR_.w_taped, NR_.w_mfault, NR_.w_mplace, NR_.w_told, NR_.w_hl, NR_.w_hd, qqM_om, QT_.w_om, vqM_nv, NV_.w_nv, zqM_nw, NW_.w_nw] at u_29); simp only [mSd0, mSd1, mSd2, mBadQ, evqx, hs_230, hs_5, ezqx, hs_231, hs_7, emqx, hs_228, hs_9, enqx, hs_229, hs_12, eqqx, hs_232, hs_13, hQ_28, u_29, h_30, (nlt h_30), c_132, h_133, (eq_true h_136), h_217, f_218, (eq_true h_219), c_227, if_true, if_false, mqM_tp, mqM_size, mqM_limit, mqM_to, mqM_frm, mqM_kind, mqM_number, mqM_sign, mqM_word, MT_.w_tp, MT_.w_size, MT_.w_limit, MT_.w_to, MT_.w_frm, MT_.w_kind, MT_.w_number, MT_.w_sign, MT_.w_word, nqM_rd, nqM_rn, nqM_taped, nqM_mfault, nqM_mplace, nqM_told, nqM_hl, nqM_hd, NR_.w_rd, NR_.w_rn, NR_.w_taped, NR_.w_mfault, NR_.w_mplace, NR_.w_told, NR_.w_hl, NR_.w_hd, qqM_om, QT_.w_om, vqM_nv, NV_.w_nv, zqM_nw, NW_.w_nw]), (fun q => ne_no q rx_221 rc_0), (fq_at hFI_222 hLx hkx (by decide) (by decide) q_22)⟩ dX12_readSaid_69
              · skip
                have n_233 : ¬ v_17 = 20 := h_219
                have r_234 := ne_hi (hi := 19) n_233 rv_17 rc_20 rfl (by decide)
                refine g_aload_n C 0 dX12_readSaid_55 rfl rfl ?_
                refine g_getI C K hLx hkx f_12_398 (v := 0) q_22 dX12_readSaid_56 ?_
                refine g_bipush C (v := 8) dX12_readSaid_59 (by decide) ?_
                refine g_icmp_ne C (tgt := 70) dX12_readSaid_61 (by decide) (fun h_235 => ?_) (fun h_235 => ?_)
                · skip
                  refine g_aload_n C 0 dX12_readSaid_70 rfl rfl ?_
                  refine g_dup C dX12_readSaid_71 rfl ?_
                  refine g_getI C K hLx hkx f_12_395 (v := v_17) q_21 dX12_readSaid_72 ?_
                  refine g_iconst C (v := 1) dX12_readSaid_75 (by decide) ?_
                  obtain ⟨x_236, hx_236, rx_236, tx_236⟩ := ex_add 1 20 r_234 rc_1 (by decide) (by decide) (by decide) (by decide)
                  refine g_iadd C (v := x_236) dX12_readSaid_76 hx_236 ?_
                  refine h_putI C K hLx hkx f_12_395 p_12_48 dX12_readSaid_77 (fun I_237 hI_237 => ?_)
                  have hU_238 := iw_put W9 hU hI_237 (ro_o hkx (by decide)) (lo := 0) (hi := 20) (rfl) (rg_w rx_236 (by decide) (by decide)) rfl
                  have hF_239 := fq_puto hF hI_237 hkx (by decide) (by decide)
                  have hs_240 : NVq I_237 J x b_4 = s_5 := by rw [hI_237]; exact (vq_oI wvqx (ro_o hkx (by decide)) (by decide)).trans hs_5
                  have hs_241 : NWq I_237 J x b_6 = s_7 := by rw [hI_237]; exact (zq_oI wzqx (ro_o hkx (by decide)) (by decide)).trans hs_7
                  have hs_242 : MTq I_237 J x b_8 = s_9 := by rw [hI_237]; exact (mq_uIt wmqx (by decide)).trans hs_9
                  have hs_243 : NRq I_237 J x b_10 b_11 = s_12 := by rw [hI_237]; exact (nq_uIt wnqx (by decide)).trans hs_12
                  have hs_244 : QTq I_237 J x = (QT_.w_om s_13 (x_236)) := by rw [hI_237]; exact ((qq_om wqqx).trans (congrArg (fun z : QT_ => QT_.w_om z (x_236)) hs_13)).trans rfl
                  refine g_aload_n C 0 dX12_readSaid_80 rfl rfl ?_
                  refine g_dup C dX12_readSaid_81 rfl ?_
                  refine g_getI C K hLx hkx f_12_398 (v := 0) (kp_j hI_237 (by decide) q_22) dX12_readSaid_82 ?_
                  refine g_iconst C (v := 1) dX12_readSaid_85 (by decide) ?_
                  refine g_iadd C (v := 1) dX12_readSaid_86 (by decide) ?_
                  refine h_putI C K hLx hkx f_12_398 p_12_49 dX12_readSaid_87 (fun I_245 hI_245 => ?_)
                  have hU_246 := iw_put W9 hU_238 hI_245 (ro_o hkx (by decide)) (lo := 0) (hi := 8) (rfl) (rg_w rc_1 (by decide) (by decide)) rfl
                  have hF_247 := fq_puto hF_239 hI_245 hkx (by decide) (by decide)
                  have hs_248 : NVq I_245 J x b_4 = s_5 := by rw [hI_245]; exact (vq_oI wvqx (ro_o hkx (by decide)) (by decide)).trans hs_240
                  have hs_249 : NWq I_245 J x b_6 = s_7 := by rw [hI_245]; exact (zq_oI wzqx (ro_o hkx (by decide)) (by decide)).trans hs_241
                  have hs_250 : MTq I_245 J x b_8 = s_9 := by rw [hI_245]; exact (mq_uIt wmqx (by decide)).trans hs_242
                  have hs_251 : NRq I_245 J x b_10 b_11 = s_12 := by rw [hI_245]; exact (nq_uIt wnqx (by decide)).trans hs_243
                  have hs_252 : QTq I_245 J x = (QT_.w_om s_13 (x_236)) := by rw [hI_245]; exact (qq_uIt wqqx (by decide)).trans hs_244
                  refine g_aload_n C 0 dX12_readSaid_90 rfl rfl ?_
                  refine g_callVV C K (c_X12_go W9 hLx hkx   hU_246) hLx hkx (by decide) rfl v_12_156 rfl ⟨rfl, rfl⟩ ⟨Nat.le_of_ble_eq_true rfl, Nat.le_of_ble_eq_true rfl⟩ (Nat.le_of_ble_eq_true rfl) ⟨Nat.le_of_ble_eq_true rfl, Nat.le_of_ble_eq_true rfl⟩ dX12_readSaid_91 rfl (st := []) (fun I_254 J_255 h_256 => ?_)
                  obtain ⟨hUI_254, hFI_254, hGJ_255, fx_253, ex_253⟩ := h_256
                  have hF_257 := fq_tr hF_247 hFI_254 (by decide)
                  have hG_258 := fq_tr hG hGJ_255 (by decide)
                  obtain ⟨s_260, hs_260⟩ : ∃ z, MTq I_254 J_255 x b_8 = z := ⟨_, rfl⟩
                  have c_259 : mGo (s_9) = s_260 := by have q := fx_253; simp only [emqx, hs_250, hs_260] at q; exact q.symm
                  have hs_261 : NVq I_254 J_255 x b_4 = s_5 := (vq_fq wvqx hFI_254 hGJ_255 (by decide) (by decide)).trans hs_248
                  have hs_262 : NWq I_254 J_255 x b_6 = s_7 := (zq_fq wzqx hFI_254 hGJ_255 (by decide) (by decide)).trans hs_249
                  have hs_263 : NRq I_254 J_255 x b_10 b_11 = s_12 := (nq_fq wnqx hFI_254 hGJ_255 (by decide) (by decide)).trans hs_251
                  have hs_264 : QTq I_254 J_255 x = (QT_.w_om s_13 (x_236)) := (qq_fq wqqx hFI_254 hGJ_255 (by decide) (by decide)).trans hs_252
                  refine g_iconst C (v := 1) dX12_readSaid_94 (by decide) ?_
                  refine g_istore_n C dX12_readSaid_95 rfl (by decide) (lo2 := [(3, .int 1), (0, .ref x), (1, .int v_14), (2, .int v_15)]) rfl ?_
                  refine g_iload_n C 2 dX12_readSaid_96 rfl rfl ?_
                  refine g_if_eq C (tgt := 108) dX12_readSaid_97 (by decide) (fun h_265 => ?_) (fun h_265 => ?_)
                  · skip
                    refine g_iload_n C 3 dX12_readSaid_108 rfl rfl ?_
                    refine g_bipush C (v := 18) dX12_readSaid_109 (by decide) ?_
                    refine g_icmp_ne C (tgt := 122) dX12_readSaid_111 (by decide) (fun h_266 => ?_) (fun h_266 => ?_)
                    · skip
                      have n_267 : ¬ v_15 = 18 := h_266
                      have r_268 := ne_lo (lo := 19) n_267 r_127 rc_18 rfl (by decide)
                      refine g_iload_n C 3 dX12_readSaid_122 rfl rfl ?_
                      refine g_bipush C (v := 22) dX12_readSaid_123 (by decide) ?_
                      refine g_icmp_ge C (tgt := 146) dX12_readSaid_125 (by decide) (fun h_269 => ?_) (fun h_269 => ?_)
                      · skip
                        have r_270 := le_r (h_269) rc_22 r_268
                        refine g_iload_n C 3 dX12_readSaid_146 rfl rfl ?_
                        refine g_bipush C (v := 24) dX12_readSaid_147 (by decide) ?_
                        refine g_icmp_ge C (tgt := 160) dX12_readSaid_149 (by decide) (fun h_271 => ?_) (fun h_271 => ?_)
                        · skip
                          have r_272 := le_r (h_271) rc_24 r_270
                          refine g_aload_n C 1 dX12_readSaid_160 rfl rfl ?_
                          refine g_iload_n C 3 dX12_readSaid_161 rfl rfl ?_
                          refine g_callVI C K (c_X12_readCompare W9 hLx hkx v_15 (r_272) hUI_254  (by rw [(fq_at hFI_254 hLx hkx (by decide) (by decide) (kp_j hI_245 (by decide) (kp_j hI_237 (by decide) q_20))), (fq_at hFI_254 hLx hkx (by decide) (by decide) (kp_j hI_245 (by decide) (kp_s hI_237)))]; have := (ti_k tx_236 rc_1); omega)) hLx hkx (by decide) rfl v_12_410 rfl ⟨rfl, rfl⟩ ⟨Nat.le_of_ble_eq_true rfl, Nat.le_of_ble_eq_true rfl⟩ (Nat.le_of_ble_eq_true rfl) ⟨Nat.le_of_ble_eq_true rfl, Nat.le_of_ble_eq_true rfl⟩ dX12_readSaid_162 rfl (st := []) (fun x_273 I_274 J_275 h_276 => ?_)
                          obtain ⟨hUI_274, hFI_274, hGJ_275, rx_273, fx_273, ex_273⟩ := h_276
                          have hF_277 := fq_tr hF_257 hFI_274 (by decide)
                          have hG_278 := fq_tr hG_258 hGJ_275 (by decide)
                          obtain ⟨s_280, hs_280⟩ : ∃ z, MTq I_274 J_275 x b_8 = z := ⟨_, rfl⟩
                          obtain ⟨s_281, hs_281⟩ : ∃ z, NRq I_274 J_275 x b_10 b_11 = z := ⟨_, rfl⟩
                          obtain ⟨s_282, hs_282⟩ : ∃ z, QTq I_274 J_275 x = z := ⟨_, rfl⟩
                          have c_279 : mCmp (s_260) (s_12) ((QT_.w_om s_13 (x_236))) = (x_273, s_280, s_281, s_282) := by have q := fx_273; simp only [emqx, enqx, eqqx, hs_260, hs_263, hs_264, hs_280, hs_281, hs_282] at q; exact q.symm
                          have hs_283 : NVq I_274 J_275 x b_4 = s_5 := (vq_fq wvqx hFI_274 hGJ_275 (by decide) (by decide)).trans hs_261
                          have hs_284 : NWq I_274 J_275 x b_6 = s_7 := (zq_fq wzqx hFI_274 hGJ_275 (by decide) (by decide)).trans hs_262
                          obtain ⟨x_285, hx_285, rx_285⟩ := ex_getw (I := I_274) (a := x) (j := 47) (lo := 0) (hi := 60) hUI_274.1 hLx (ro_o hkx (by decide)) rfl
                          obtain ⟨x_286, hx_286, rx_286⟩ := ex_getw (I := I_274) (a := x) (j := 50) (lo := 0) (hi := 59) hUI_274.1 hLx (ro_o hkx (by decide)) rfl
                          refine g_istore_n C dX12_readSaid_165 rfl (by decide) (lo2 := [(3, .int x_273), (0, .ref x), (1, .int v_14), (2, .int v_15)]) rfl ?_
                          refine g_aload_n C 1 dX12_readSaid_166 rfl rfl ?_
                          refine g_dup C dX12_readSaid_167 rfl ?_
                          refine g_getI C K hLx hkx f_12_398 (v := 1) (fq_at hFI_274 hLx hkx (by decide) (by decide) (fq_at hFI_254 hLx hkx (by decide) (by decide) (kp_s hI_245))) dX12_readSaid_168 ?_
                          refine g_iconst C (v := 1) dX12_readSaid_171 (by decide) ?_
                          refine g_isub C (v := 0) dX12_readSaid_172 (by decide) ?_
                          refine h_putI C K hLx hkx f_12_398 p_12_49 dX12_readSaid_173 (fun I_287 hI_287 => ?_)
                          have hU_288 := iw_put W9 hUI_274 hI_287 (ro_o hkx (by decide)) (lo := 0) (hi := 8) (rfl) (rg_w rc_0 (by decide) (by decide)) rfl
                          have hF_289 := fq_puto hF_277 hI_287 hkx (by decide) (by decide)
                          have hs_290 : NVq I_287 J_275 x b_4 = s_5 := by rw [hI_287]; exact (vq_oI wvqx (ro_o hkx (by decide)) (by decide)).trans hs_283
                          have hs_291 : NWq I_287 J_275 x b_6 = s_7 := by rw [hI_287]; exact (zq_oI wzqx (ro_o hkx (by decide)) (by decide)).trans hs_284
                          have hs_292 : MTq I_287 J_275 x b_8 = s_280 := by rw [hI_287]; exact (mq_uIt wmqx (by decide)).trans hs_280
                          have hs_293 : NRq I_287 J_275 x b_10 b_11 = s_281 := by rw [hI_287]; exact (nq_uIt wnqx (by decide)).trans hs_281
                          have hs_294 : QTq I_287 J_275 x = s_282 := by rw [hI_287]; exact (qq_uIt wqqx (by decide)).trans hs_282
                          refine g_iload_n C 0 dX12_readSaid_176 rfl rfl ?_
                          exact g_zret (ty := .boolean) (r := x_273) B K rfl (nar_z (rx_273)) ⟨hU_288, hF_289, hG_278, rx_273, (by (try simp only [h_30, (nlt h_30), c_132, h_133, (eq_true h_136), h_217, f_218, h_219, h_235, hx_236, c_259, (eq_true h_265), h_266, h_269, h_271, hx_285, hx_286, if_true, if_false, mqM_tp, mqM_size, mqM_limit, mqM_to, mqM_frm, mqM_kind, mqM_number, mqM_sign, mqM_word, MT_.w_tp, MT_.w_size, MT_.w_limit, MT_.w_to, MT_.w_frm, MT_.w_kind, MT_.w_number, MT_.w_sign, MT_.w_word, nqM_rd, nqM_rn, nqM_taped, nqM_mfault, nqM_mplace, nqM_told, nqM_hl, nqM_hd, NR_.w_rd, NR_.w_rn, NR_.w_taped, NR_.w_mfault, NR_.w_mplace, NR_.w_told, NR_.w_hl, NR_.w_hd, qqM_om, QT_.w_om, vqM_nv, NV_.w_nv, zqM_nw, NW_.w_nw] at hQ_28); (try simp only [h_30, (nlt h_30), c_132, h_133, (eq_true h_136), h_217, f_218, h_219, h_235, hx_236, c_259, (eq_true h_265), h_266, h_269, h_271, hx_285, hx_286, if_true, if_false, mqM_tp, mqM_size, mqM_limit, mqM_to, mqM_frm, mqM_kind, mqM_number, mqM_sign, mqM_word, MT_.w_tp, MT_.w_size, MT_.w_limit, MT_.w_to, MT_.w_frm, MT_.w_kind, MT_.w_number, MT_.w_sign, MT_.w_word, nqM_rd, nqM_rn, nqM_taped, nqM_mfault, nqM_mplace, nqM_told, nqM_hl, nqM_hd, NR_.w_rd, NR_.w_rn, NR_.w_taped, NR_.w_mfault, NR_.w_mplace, NR_.w_told, NR_.w_hl, NR_.w_hd, qqM_om, QT_.w_om, vqM_nv, NV_.w_nv, zqM_nw, NW_.w_nw] at u_29); (try simp only [h_30, (nlt h_30), c_132, h_133, (eq_true h_136), h_217, f_218, h_219, h_235, hx_236, c_259, (eq_true h_265), h_266, h_269, h_271, hx_285, hx_286, if_true, if_false, mqM_tp, mqM_size, mqM_limit, mqM_to, mqM_frm, mqM_kind, mqM_number, mqM_sign, mqM_word, MT_.w_tp, MT_.w_size, MT_.w_limit, MT_.w_to, MT_.w_frm, MT_.w_kind, MT_.w_number, MT_.w_sign, MT_.w_word, nqM_rd, nqM_rn, nqM_taped, nqM_mfault, nqM_mplace, nqM_told, nqM_hl, nqM_hd, NR_.w_rd, NR_.w_rn, NR_.w_taped, NR_.w_mfault, NR_.w_mplace, NR_.w_told, NR_.w_hl, NR_.w_hd, qqM_om, QT_.w_om, vqM_nv, NV_.w_nv, zqM_nw, NW_.w_nw] at c_279); simp only [mSd0, mSd1, mSd2, mBadQ, evqx, hs_290, hs_5, ezqx, hs_291, hs_7, emqx, hs_292, hs_9, enqx, hs_293, hs_12, eqqx, hs_294, hs_13, hQ_28, u_29, h_30, (nlt h_30), c_132, h_133, (eq_true h_136), h_217, f_218, h_219, h_235, hx_236, c_259, (eq_true h_265), h_266, h_269, h_271, c_279, hx_285, hx_286, if_true, if_false, mqM_tp, mqM_size, mqM_limit, mqM_to, mqM_frm, mqM_kind, mqM_number, mqM_sign, mqM_word, MT_.w_tp, MT_.w_size, MT_.w_limit, MT_.w_to, MT_.w_frm, MT_.w_kind, MT_.w_number, MT_.w_sign, MT_.w_word, nqM_rd, nqM_rn, nqM_taped, nqM_mfault, nqM_mplace, nqM_told, nqM_hl, nqM_hd, NR_.w_rd, NR_.w_rn, NR_.w_taped, NR_.w_mfault, NR_.w_mplace, NR_.w_told, NR_.w_hl, NR_.w_hd, qqM_om, QT_.w_om, vqM_nv, NV_.w_nv, zqM_nw, NW_.w_nw]), (fun hq => by have n_295 : ¬ x_273 = 0 := hq; have r_296 := ne_lo (lo := 1) n_295 rx_273 rc_0 rfl (by decide); have f_297 := sl_v (fq_at hFI_254 hLx hkx (by decide) (by decide) (kp_j hI_245 (by decide) (kp_j hI_237 (by decide) q_20))) hx_285 hx_286 (ex_273 n_295); have f_298 : s_282.om = x_236 := (congrArg QT_.om hs_294).symm.trans (kp_j hI_287 (by decide) (fq_at hFI_274 hLx hkx (by decide) (by decide) (fq_at hFI_254 hLx hkx (by decide) (by decide) (kp_j hI_245 (by decide) (kp_s hI_237))))); exact (sz_m hx_1 hx_2 (kp_j hI_287 (by decide) hx_285) (kp_j hI_287 (by decide) (fq_at hFI_274 hLx hkx (by decide) (by decide) (fq_at hFI_254 hLx hkx (by decide) (by decide) (kp_j hI_245 (by decide) (kp_s hI_237))))) (kp_j hI_287 (by decide) hx_286) ⟨by have := (ti_k tx_236 rc_1); omega, by have := (ti_k tx_236 rc_1); omega, by have := (ti_k tx_236 rc_1); omega, by have := (ti_k tx_236 rc_1); omega⟩)), (kp_s hI_287)⟩ dX12_readSaid_177
                        · skip
                          have r_299 := lt_l (hi := 23) (nle h_271) r_270 rc_24 (by decide)
                          refine g_aload_n C 1 dX12_readSaid_152 rfl rfl ?_
                          refine g_iload_n C 3 dX12_readSaid_153 rfl rfl ?_
                          refine g_callVI C K (c_X12_readOf W9 hLx hkx v_15 (r_299) hUI_254  (by rw [(fq_at hFI_254 hLx hkx (by decide) (by decide) (kp_j hI_245 (by decide) (kp_j hI_237 (by decide) q_20))), (fq_at hFI_254 hLx hkx (by decide) (by decide) (kp_j hI_245 (by decide) (kp_s hI_237)))]; have := (ti_k tx_236 rc_1); omega)) hLx hkx (by decide) rfl v_12_407 rfl ⟨rfl, rfl⟩ ⟨Nat.le_of_ble_eq_true rfl, Nat.le_of_ble_eq_true rfl⟩ (Nat.le_of_ble_eq_true rfl) ⟨Nat.le_of_ble_eq_true rfl, Nat.le_of_ble_eq_true rfl⟩ dX12_readSaid_154 rfl (st := []) (fun x_300 I_301 J_302 h_303 => ?_)
                          obtain ⟨hUI_301, hFI_301, hGJ_302, rx_300, fx_300, ex_300⟩ := h_303
                          have hF_304 := fq_tr hF_257 hFI_301 (by decide)
                          have hG_305 := fq_tr hG_258 hGJ_302 (by decide)
                          obtain ⟨s_307, hs_307⟩ : ∃ z, MTq I_301 J_302 x b_8 = z := ⟨_, rfl⟩
                          obtain ⟨s_308, hs_308⟩ : ∃ z, NRq I_301 J_302 x b_10 b_11 = z := ⟨_, rfl⟩
                          obtain ⟨s_309, hs_309⟩ : ∃ z, QTq I_301 J_302 x = z := ⟨_, rfl⟩
                          have c_306 : mOf (v_15) (s_5) (s_7) (s_260) (s_12) ((QT_.w_om s_13 (x_236))) = (x_300, s_307, s_308, s_309) := by have q := fx_300; simp only [evqx, ezqx, emqx, enqx, eqqx, hs_261, hs_262, hs_260, hs_263, hs_264, hs_307, hs_308, hs_309] at q; exact q.symm
                          have hs_310 : NVq I_301 J_302 x b_4 = s_5 := (vq_fq wvqx hFI_301 hGJ_302 (by decide) (by decide)).trans hs_261
                          have hs_311 : NWq I_301 J_302 x b_6 = s_7 := (zq_fq wzqx hFI_301 hGJ_302 (by decide) (by decide)).trans hs_262
                          obtain ⟨x_312, hx_312, rx_312⟩ := ex_getw (I := I_301) (a := x) (j := 47) (lo := 0) (hi := 60) hUI_301.1 hLx (ro_o hkx (by decide)) rfl
                          obtain ⟨x_313, hx_313, rx_313⟩ := ex_getw (I := I_301) (a := x) (j := 50) (lo := 0) (hi := 59) hUI_301.1 hLx (ro_o hkx (by decide)) rfl
                          refine g_goto C (tgt := 165) dX12_readSaid_157 (by decide) ?_
                          refine g_istore_n C dX12_readSaid_165 rfl (by decide) (lo2 := [(3, .int x_300), (0, .ref x), (1, .int v_14), (2, .int v_15)]) rfl ?_
                          refine g_aload_n C 1 dX12_readSaid_166 rfl rfl ?_
                          refine g_dup C dX12_readSaid_167 rfl ?_
                          refine g_getI C K hLx hkx f_12_398 (v := 1) (fq_at hFI_301 hLx hkx (by decide) (by decide) (fq_at hFI_254 hLx hkx (by decide) (by decide) (kp_s hI_245))) dX12_readSaid_168 ?_
                          refine g_iconst C (v := 1) dX12_readSaid_171 (by decide) ?_
                          refine g_isub C (v := 0) dX12_readSaid_172 (by decide) ?_
                          refine h_putI C K hLx hkx f_12_398 p_12_49 dX12_readSaid_173 (fun I_314 hI_314 => ?_)
                          have hU_315 := iw_put W9 hUI_301 hI_314 (ro_o hkx (by decide)) (lo := 0) (hi := 8) (rfl) (rg_w rc_0 (by decide) (by decide)) rfl
                          have hF_316 := fq_puto hF_304 hI_314 hkx (by decide) (by decide)
                          have hs_317 : NVq I_314 J_302 x b_4 = s_5 := by rw [hI_314]; exact (vq_oI wvqx (ro_o hkx (by decide)) (by decide)).trans hs_310
                          have hs_318 : NWq I_314 J_302 x b_6 = s_7 := by rw [hI_314]; exact (zq_oI wzqx (ro_o hkx (by decide)) (by decide)).trans hs_311
                          have hs_319 : MTq I_314 J_302 x b_8 = s_307 := by rw [hI_314]; exact (mq_uIt wmqx (by decide)).trans hs_307
                          have hs_320 : NRq I_314 J_302 x b_10 b_11 = s_308 := by rw [hI_314]; exact (nq_uIt wnqx (by decide)).trans hs_308
                          have hs_321 : QTq I_314 J_302 x = s_309 := by rw [hI_314]; exact (qq_uIt wqqx (by decide)).trans hs_309
                          refine g_iload_n C 0 dX12_readSaid_176 rfl rfl ?_
                          exact g_zret (ty := .boolean) (r := x_300) B K rfl (nar_z (rx_300)) ⟨hU_315, hF_316, hG_305, rx_300, (by first | ((try simp only [h_30, (nlt h_30), c_132, h_133, (eq_true h_136), h_217, f_218, h_219, h_235, hx_236, c_259, (eq_true h_265), h_266, h_269, h_271, (nle h_271), hx_312, hx_313, if_true, if_false, mqM_tp, mqM_size, mqM_limit, mqM_to, mqM_frm, mqM_kind, mqM_number, mqM_sign, mqM_word, MT_.w_tp, MT_.w_size, MT_.w_limit, MT_.w_to, MT_.w_frm, MT_.w_kind, MT_.w_number, MT_.w_sign, MT_.w_word, nqM_rd, nqM_rn, nqM_taped, nqM_mfault, nqM_mplace, nqM_told, nqM_hl, nqM_hd, NR_.w_rd, NR_.w_rn, NR_.w_taped, NR_.w_mfault, NR_.w_mplace, NR_.w_told, NR_.w_hl, NR_.w_hd, qqM_om, QT_.w_om, vqM_nv, NV_.w_nv, zqM_nw, NW_.w_nw] at hQ_28); (try simp only [h_30, (nlt h_30), c_132, h_133, (eq_true h_136), h_217, f_218, h_219, h_235, hx_236, c_259, (eq_true h_265), h_266, h_269, h_271, (nle h_271), hx_312, hx_313, if_true, if_false, mqM_tp, mqM_size, mqM_limit, mqM_to, mqM_frm, mqM_kind, mqM_number, mqM_sign, mqM_word, MT_.w_tp, MT_.w_size, MT_.w_limit, MT_.w_to, MT_.w_frm, MT_.w_kind, MT_.w_number, MT_.w_sign, MT_.w_word, nqM_rd, nqM_rn, nqM_taped, nqM_mfault, nqM_mplace, nqM_told, nqM_hl, nqM_hd, NR_.w_rd, NR_.w_rn, NR_.w_taped, NR_.w_mfault, NR_.w_mplace, NR_.w_told, NR_.w_hl, NR_.w_hd, qqM_om, QT_.w_om, vqM_nv, NV_.w_nv, zqM_nw, NW_.w_nw] at u_29); (try simp only [h_30, (nlt h_30), c_132, h_133, (eq_true h_136), h_217, f_218, h_219, h_235, hx_236, c_259, (eq_true h_265), h_266, h_269, h_271, (nle h_271), hx_312, hx_313, if_true, if_false, mqM_tp, mqM_size, mqM_limit, mqM_to, mqM_frm, mqM_kind, mqM_number, mqM_sign, mqM_word, MT_.w_tp, MT_.w_size, MT_.w_limit, MT_.w_to, MT_.w_frm, MT_.w_kind, MT_.w_number, MT_.w_sign, MT_.w_word, nqM_rd, nqM_rn, nqM_taped, nqM_mfault, nqM_mplace, nqM_told, nqM_hl, nqM_hd, NR_.w_rd, NR_.w_rn, NR_.w_taped, NR_.w_mfault, NR_.w_mplace, NR_.w_told, NR_.w_hl, NR_.w_hd, qqM_om, QT_.w_om, vqM_nv, NV_.w_nv, zqM_nw, NW_.w_nw] at c_306); simp only [mSd0, mSd1, mSd2, mBadQ, evqx, hs_317, hs_5, ezqx, hs_318, hs_7, emqx, hs_319, hs_9, enqx, hs_320, hs_12, eqqx, hs_321, hs_13, hQ_28, u_29, h_30, (nlt h_30), c_132, h_133, (eq_true h_136), h_217, f_218, h_219, h_235, hx_236, c_259, (eq_true h_265), h_266, h_269, h_271, (nle h_271), c_306, hx_312, hx_313, if_true, if_false, mqM_tp, mqM_size, mqM_limit, mqM_to, mqM_frm, mqM_kind, mqM_number, mqM_sign, mqM_word, MT_.w_tp, MT_.w_size, MT_.w_limit, MT_.w_to, MT_.w_frm, MT_.w_kind, MT_.w_number, MT_.w_sign, MT_.w_word, nqM_rd, nqM_rn, nqM_taped, nqM_mfault, nqM_mplace, nqM_told, nqM_hl, nqM_hd, NR_.w_rd, NR_.w_rn, NR_.w_taped, NR_.w_mfault, NR_.w_mplace, NR_.w_told, NR_.w_hl, NR_.w_hd, qqM_om, QT_.w_om, vqM_nv, NV_.w_nv, zqM_nw, NW_.w_nw]; done) | exact absurd (nle h_271) h_30), (fun hq => by have n_322 : ¬ x_300 = 0 := hq; have r_323 := ne_lo (lo := 1) n_322 rx_300 rc_0 rfl (by decide); have f_324 := sl_v (fq_at hFI_254 hLx hkx (by decide) (by decide) (kp_j hI_245 (by decide) (kp_j hI_237 (by decide) q_20))) hx_312 hx_313 (ex_300 n_322); have f_325 : s_309.om = x_236 := (congrArg QT_.om hs_321).symm.trans (kp_j hI_314 (by decide) (fq_at hFI_301 hLx hkx (by decide) (by decide) (fq_at hFI_254 hLx hkx (by decide) (by decide) (kp_j hI_245 (by decide) (kp_s hI_237))))); exact (sz_m hx_1 hx_2 (kp_j hI_314 (by decide) hx_312) (kp_j hI_314 (by decide) (fq_at hFI_301 hLx hkx (by decide) (by decide) (fq_at hFI_254 hLx hkx (by decide) (by decide) (kp_j hI_245 (by decide) (kp_s hI_237))))) (kp_j hI_314 (by decide) hx_313) ⟨by have := (ti_k tx_236 rc_1); omega, by have := (ti_k tx_236 rc_1); omega, by have := (ti_k tx_236 rc_1); omega, by have := (ti_k tx_236 rc_1); omega⟩)), (kp_s hI_314)⟩ dX12_readSaid_177
                      · skip
                        have r_326 := lt_l (hi := 21) (nle h_269) r_268 rc_22 (by decide)
                        refine g_aload_n C 1 dX12_readSaid_128 rfl rfl ?_
                        refine g_aload_n C 1 dX12_readSaid_129 rfl rfl ?_
                        refine g_bipush C (v := 50) dX12_readSaid_130 (by decide) ?_
                        refine g_iload_n C 3 dX12_readSaid_132 rfl rfl ?_
                        obtain ⟨x_327, hx_327, rx_327, tx_327⟩ := ex_add 69 71 rc_50 r_326 (by decide) (by decide) (by decide) (by decide)
                        refine g_iadd C (v := x_327) dX12_readSaid_133 hx_327 ?_
                        refine g_iconst C (v := 0) dX12_readSaid_134 (by decide) ?_
                        refine g_iconst C (v := 0) dX12_readSaid_135 (by decide) ?_
                        refine g_iconst C (v := 0) dX12_readSaid_136 (by decide) ?_
                        have r_328 := (show Rg 0 59 v_16 from by have q1 := rv_16; have q2 := rx_236; unfold Rg at *; omega)
                        refine g_callVI C K (c_X12_saysOne W9 hLx hkx x_327 0 0 0 (rg_w rx_327 (by decide) (by decide)) (rg_w rc_0 (by decide) (by decide)) (rg_w rc_0 (by decide) (by decide)) hUI_254  (eq_rg (fq_at hFI_254 hLx hkx (by decide) (by decide) (kp_j hI_245 (by decide) (kp_j hI_237 (by decide) q_20))) (r_328)) (by rw [(fq_at hFI_254 hLx hkx (by decide) (by decide) (kp_j hI_245 (by decide) (kp_j hI_237 (by decide) q_20)))]; exact ⟨fun q => by rcases q with q | q | q; exact absurd q (rg_nek rx_327 rc_1 (by decide)); exact absurd q (rg_nek rx_327 rc_2 (by decide)); exact absurd q (rg_nek rx_327 rc_3 (by decide)), fun q => by rcases q with q | q; exact absurd q (rg_nek rx_327 rc_2 (by decide)); exact absurd q (rg_nek rx_327 rc_3 (by decide)), fun q => absurd q (rg_nek rx_327 rc_73 (by decide))⟩)) hLx hkx (by decide) rfl v_12_389 rfl ⟨rfl, rfl⟩ ⟨Nat.le_of_ble_eq_true rfl, Nat.le_of_ble_eq_true rfl⟩ (Nat.le_of_ble_eq_true rfl) ⟨Nat.le_of_ble_eq_true rfl, Nat.le_of_ble_eq_true rfl⟩ dX12_readSaid_137 rfl (st := [.ref x]) (fun x_329 I_330 J_331 h_332 => ?_)
                        obtain ⟨hUI_330, hFI_330, hGJ_331, rx_329, ex_329⟩ := h_332
                        have hF_333 := fq_tr hF_257 hFI_330 (by decide)
                        have hG_334 := fq_tr hG_258 hGJ_331 (by decide)
                        have hs_335 : NVq I_330 J_331 x b_4 = s_5 := (vq_fq wvqx hFI_330 hGJ_331 (by decide) (by decide)).trans hs_261
                        have hs_336 : NWq I_330 J_331 x b_6 = s_7 := (zq_fq wzqx hFI_330 hGJ_331 (by decide) (by decide)).trans hs_262
                        have hs_337 : MTq I_330 J_331 x b_8 = s_260 := (mq_fq wmqx hFI_330 hGJ_331 (by decide) (by decide)).trans hs_260
                        have hs_338 : NRq I_330 J_331 x b_10 b_11 = s_12 := (nq_fq wnqx hFI_330 hGJ_331 (by decide) (by decide)).trans hs_263
                        have hs_339 : QTq I_330 J_331 x = (QT_.w_om s_13 (x_236)) := (qq_fq wqqx hFI_330 hGJ_331 (by decide) (by decide)).trans hs_264
                        obtain ⟨x_340, hx_340, rx_340, tx_340, ux_340⟩ := sa_b (lo := 1) (hi := 60) ex_329 (fq_at hFI_254 hLx hkx (by decide) (by decide) (kp_j hI_245 (by decide) (kp_j hI_237 (by decide) q_20))) r_328 (by decide) (by decide)
                        have r_341 := (show Rg 0 59 x_329 from by have q1 := ux_340; have q2 := r_328; unfold Rg at *; omega)
                        refine h_putI C K hLx hkx f_12_386 p_12_50 dX12_readSaid_140 (fun I_342 hI_342 => ?_)
                        have hU_343 := iw_put W9 hUI_330 hI_342 (ro_o hkx (by decide)) (lo := 0) (hi := 59) (rfl) (r_341) rfl
                        have hF_344 := fq_puto hF_333 hI_342 hkx (by decide) (by decide)
                        have hs_345 : NVq I_342 J_331 x b_4 = s_5 := by rw [hI_342]; exact (vq_oI wvqx (ro_o hkx (by decide)) (by decide)).trans hs_335
                        have hs_346 : NWq I_342 J_331 x b_6 = s_7 := by rw [hI_342]; exact (zq_oI wzqx (ro_o hkx (by decide)) (by decide)).trans hs_336
                        have hs_347 : MTq I_342 J_331 x b_8 = s_260 := by rw [hI_342]; exact (mq_uIt wmqx (by decide)).trans hs_337
                        have hs_348 : NRq I_342 J_331 x b_10 b_11 = s_12 := by rw [hI_342]; exact (nq_uIt wnqx (by decide)).trans hs_338
                        have hs_349 : QTq I_342 J_331 x = (QT_.w_om s_13 (x_236)) := by rw [hI_342]; exact (qq_uIt wqqx (by decide)).trans hs_339
                        refine g_goto C (tgt := 166) dX12_readSaid_143 (by decide) ?_
                        refine g_aload_n C 1 dX12_readSaid_166 rfl rfl ?_
                        refine g_dup C dX12_readSaid_167 rfl ?_
                        refine g_getI C K hLx hkx f_12_398 (v := 1) (kp_j hI_342 (by decide) (fq_at hFI_330 hLx hkx (by decide) (by decide) (fq_at hFI_254 hLx hkx (by decide) (by decide) (kp_s hI_245)))) dX12_readSaid_168 ?_
                        refine g_iconst C (v := 1) dX12_readSaid_171 (by decide) ?_
                        refine g_isub C (v := 0) dX12_readSaid_172 (by decide) ?_
                        refine h_putI C K hLx hkx f_12_398 p_12_49 dX12_readSaid_173 (fun I_350 hI_350 => ?_)
                        have hU_351 := iw_put W9 hU_343 hI_350 (ro_o hkx (by decide)) (lo := 0) (hi := 8) (rfl) (rg_w rc_0 (by decide) (by decide)) rfl
                        have hF_352 := fq_puto hF_344 hI_350 hkx (by decide) (by decide)
                        have hs_353 : NVq I_350 J_331 x b_4 = s_5 := by rw [hI_350]; exact (vq_oI wvqx (ro_o hkx (by decide)) (by decide)).trans hs_345
                        have hs_354 : NWq I_350 J_331 x b_6 = s_7 := by rw [hI_350]; exact (zq_oI wzqx (ro_o hkx (by decide)) (by decide)).trans hs_346
                        have hs_355 : MTq I_350 J_331 x b_8 = s_260 := by rw [hI_350]; exact (mq_uIt wmqx (by decide)).trans hs_347
                        have hs_356 : NRq I_350 J_331 x b_10 b_11 = s_12 := by rw [hI_350]; exact (nq_uIt wnqx (by decide)).trans hs_348
                        have hs_357 : QTq I_350 J_331 x = (QT_.w_om s_13 (x_236)) := by rw [hI_350]; exact (qq_uIt wqqx (by decide)).trans hs_349
                        refine g_iload_n C 0 dX12_readSaid_176 rfl rfl ?_
                        exact g_zret (ty := .boolean) (r := 1) B K rfl (rfl) ⟨hU_351, hF_352, hG_334, rg_w rc_1 (by decide) (by decide), (by first | ((try simp only [h_30, (nlt h_30), c_132, h_133, (eq_true h_136), h_217, f_218, h_219, h_235, hx_236, c_259, (eq_true h_265), h_266, h_269, (nle h_269), hx_327, hx_340, if_true, if_false, mqM_tp, mqM_size, mqM_limit, mqM_to, mqM_frm, mqM_kind, mqM_number, mqM_sign, mqM_word, MT_.w_tp, MT_.w_size, MT_.w_limit, MT_.w_to, MT_.w_frm, MT_.w_kind, MT_.w_number, MT_.w_sign, MT_.w_word, nqM_rd, nqM_rn, nqM_taped, nqM_mfault, nqM_mplace, nqM_told, nqM_hl, nqM_hd, NR_.w_rd, NR_.w_rn, NR_.w_taped, NR_.w_mfault, NR_.w_mplace, NR_.w_told, NR_.w_hl, NR_.w_hd, qqM_om, QT_.w_om, vqM_nv, NV_.w_nv, zqM_nw, NW_.w_nw] at hQ_28); (try simp only [h_30, (nlt h_30), c_132, h_133, (eq_true h_136), h_217, f_218, h_219, h_235, hx_236, c_259, (eq_true h_265), h_266, h_269, (nle h_269), hx_327, hx_340, if_true, if_false, mqM_tp, mqM_size, mqM_limit, mqM_to, mqM_frm, mqM_kind, mqM_number, mqM_sign, mqM_word, MT_.w_tp, MT_.w_size, MT_.w_limit, MT_.w_to, MT_.w_frm, MT_.w_kind, MT_.w_number, MT_.w_sign, MT_.w_word, nqM_rd, nqM_rn, nqM_taped, nqM_mfault, nqM_mplace, nqM_told, nqM_hl, nqM_hd, NR_.w_rd, NR_.w_rn, NR_.w_taped, NR_.w_mfault, NR_.w_mplace, NR_.w_told, NR_.w_hl, NR_.w_hd, qqM_om, QT_.w_om, vqM_nv, NV_.w_nv, zqM_nw, NW_.w_nw] at u_29); simp only [mSd0, mSd1, mSd2, mBadQ, evqx, hs_353, hs_5, ezqx, hs_354, hs_7, emqx, hs_355, hs_9, enqx, hs_356, hs_12, eqqx, hs_357, hs_13, hQ_28, u_29, h_30, (nlt h_30), c_132, h_133, (eq_true h_136), h_217, f_218, h_219, h_235, hx_236, c_259, (eq_true h_265), h_266, h_269, (nle h_269), hx_327, hx_340, if_true, if_false, mqM_tp, mqM_size, mqM_limit, mqM_to, mqM_frm, mqM_kind, mqM_number, mqM_sign, mqM_word, MT_.w_tp, MT_.w_size, MT_.w_limit, MT_.w_to, MT_.w_frm, MT_.w_kind, MT_.w_number, MT_.w_sign, MT_.w_word, nqM_rd, nqM_rn, nqM_taped, nqM_mfault, nqM_mplace, nqM_told, nqM_hl, nqM_hd, NR_.w_rd, NR_.w_rn, NR_.w_taped, NR_.w_mfault, NR_.w_mplace, NR_.w_told, NR_.w_hl, NR_.w_hd, qqM_om, QT_.w_om, vqM_nv, NV_.w_nv, zqM_nw, NW_.w_nw]; done) | exact absurd (nle h_269) h_30), (fun _ => (sz_m hx_1 hx_2 (kp_j hI_350 (by decide) (kp_j hI_342 (by decide) hx_340)) (kp_j hI_350 (by decide) (kp_j hI_342 (by decide) (fq_at hFI_330 hLx hkx (by decide) (by decide) (fq_at hFI_254 hLx hkx (by decide) (by decide) (kp_j hI_245 (by decide) (kp_s hI_237)))))) (kp_j hI_350 (by decide) (kp_s hI_342)) ⟨by have := tx_340; have := (ti_k tx_236 rc_1); omega, by have := tx_340; have := (ti_k tx_236 rc_1); omega, by have := tx_340; have := (ti_k tx_236 rc_1); omega, by have := tx_340; have := (ti_k tx_236 rc_1); omega⟩)), (kp_s hI_350)⟩ dX12_readSaid_177
                    · skip
                      have r_358 := (⟨(r_127).1, (eq_rg (h_266) rc_18).2⟩ : Rg 18 18 v_15)
                      refine g_aload_n C 1 dX12_readSaid_114 rfl rfl ?_
                      refine g_callVI C K (c_X12_readNot_1 W9 hLx hkx   hUI_254  (by rw [(fq_at hFI_254 hLx hkx (by decide) (by decide) (kp_j hI_245 (by decide) (kp_j hI_237 (by decide) q_20))), (fq_at hFI_254 hLx hkx (by decide) (by decide) (kp_j hI_245 (by decide) (kp_s hI_237)))]; have := (ti_k tx_236 rc_1); omega) ((fq_at hFI_254 hLx hkx (by decide) (by decide) (kp_s hI_245)))) hLx hkx (by decide) rfl v_12_404 rfl ⟨rfl, rfl⟩ ⟨Nat.le_of_ble_eq_true rfl, Nat.le_of_ble_eq_true rfl⟩ (Nat.le_of_ble_eq_true rfl) ⟨Nat.le_of_ble_eq_true rfl, Nat.le_of_ble_eq_true rfl⟩ dX12_readSaid_115 rfl (st := []) (fun x_359 I_360 J_361 h_362 => ?_)
                      obtain ⟨hUI_360, hFI_360, hGJ_361, rx_359, fx_359, ex_359⟩ := h_362
                      have hF_363 := fq_tr hF_257 hFI_360 (by decide)
                      have hG_364 := fq_tr hG_258 hGJ_361 (by decide)
                      obtain ⟨s_366, hs_366⟩ : ∃ z, MTq I_360 J_361 x b_8 = z := ⟨_, rfl⟩
                      obtain ⟨s_367, hs_367⟩ : ∃ z, NRq I_360 J_361 x b_10 b_11 = z := ⟨_, rfl⟩
                      obtain ⟨s_368, hs_368⟩ : ∃ z, QTq I_360 J_361 x = z := ⟨_, rfl⟩
                      have c_365 : mNtK 7 (s_5) (s_7) (s_260) (s_12) ((QT_.w_om s_13 (x_236))) = (x_359, s_366, s_367, s_368) := by have q := fx_359; simp only [evqx, ezqx, emqx, enqx, eqqx, hs_261, hs_262, hs_260, hs_263, hs_264, hs_366, hs_367, hs_368] at q; exact q.symm
                      have hs_369 : NVq I_360 J_361 x b_4 = s_5 := (vq_fq wvqx hFI_360 hGJ_361 (by decide) (by decide)).trans hs_261
                      have hs_370 : NWq I_360 J_361 x b_6 = s_7 := (zq_fq wzqx hFI_360 hGJ_361 (by decide) (by decide)).trans hs_262
                      obtain ⟨x_371, hx_371, rx_371⟩ := ex_getw (I := I_360) (a := x) (j := 47) (lo := 0) (hi := 60) hUI_360.1 hLx (ro_o hkx (by decide)) rfl
                      obtain ⟨x_372, hx_372, rx_372⟩ := ex_getw (I := I_360) (a := x) (j := 50) (lo := 0) (hi := 59) hUI_360.1 hLx (ro_o hkx (by decide)) rfl
                      obtain ⟨x_373, hx_373, rx_373⟩ := ex_getw (I := I_360) (a := x) (j := 48) (lo := 0) (hi := 20) hUI_360.1 hLx (ro_o hkx (by decide)) rfl
                      have f_374 : s_368.om = x_373 := (congrArg QT_.om hs_368).symm.trans hx_373
                      refine g_istore_n C dX12_readSaid_118 rfl (by decide) (lo2 := [(3, .int x_359), (0, .ref x), (1, .int v_14), (2, .int v_15)]) rfl ?_
                      refine g_goto C (tgt := 166) dX12_readSaid_119 (by decide) ?_
                      refine g_aload_n C 1 dX12_readSaid_166 rfl rfl ?_
                      refine g_dup C dX12_readSaid_167 rfl ?_
                      refine g_getI C K hLx hkx f_12_398 (v := 1) ex_359.2 dX12_readSaid_168 ?_
                      refine g_iconst C (v := 1) dX12_readSaid_171 (by decide) ?_
                      refine g_isub C (v := 0) dX12_readSaid_172 (by decide) ?_
                      refine h_putI C K hLx hkx f_12_398 p_12_49 dX12_readSaid_173 (fun I_375 hI_375 => ?_)
                      have hU_376 := iw_put W9 hUI_360 hI_375 (ro_o hkx (by decide)) (lo := 0) (hi := 8) (rfl) (rg_w rc_0 (by decide) (by decide)) rfl
                      have hF_377 := fq_puto hF_363 hI_375 hkx (by decide) (by decide)
                      have hs_378 : NVq I_375 J_361 x b_4 = s_5 := by rw [hI_375]; exact (vq_oI wvqx (ro_o hkx (by decide)) (by decide)).trans hs_369
                      have hs_379 : NWq I_375 J_361 x b_6 = s_7 := by rw [hI_375]; exact (zq_oI wzqx (ro_o hkx (by decide)) (by decide)).trans hs_370
                      have hs_380 : MTq I_375 J_361 x b_8 = s_366 := by rw [hI_375]; exact (mq_uIt wmqx (by decide)).trans hs_366
                      have hs_381 : NRq I_375 J_361 x b_10 b_11 = s_367 := by rw [hI_375]; exact (nq_uIt wnqx (by decide)).trans hs_367
                      have hs_382 : QTq I_375 J_361 x = s_368 := by rw [hI_375]; exact (qq_uIt wqqx (by decide)).trans hs_368
                      refine g_iload_n C 0 dX12_readSaid_176 rfl rfl ?_
                      exact g_zret (ty := .boolean) (r := x_359) B K rfl (nar_z (rx_359)) ⟨hU_376, hF_377, hG_364, rx_359, (by (try simp only [h_30, (nlt h_30), c_132, h_133, (eq_true h_136), h_217, f_218, h_219, h_235, hx_236, c_259, (eq_true h_265), (eq_true h_266), hx_371, hx_372, hx_373, f_374, if_true, if_false, mqM_tp, mqM_size, mqM_limit, mqM_to, mqM_frm, mqM_kind, mqM_number, mqM_sign, mqM_word, MT_.w_tp, MT_.w_size, MT_.w_limit, MT_.w_to, MT_.w_frm, MT_.w_kind, MT_.w_number, MT_.w_sign, MT_.w_word, nqM_rd, nqM_rn, nqM_taped, nqM_mfault, nqM_mplace, nqM_told, nqM_hl, nqM_hd, NR_.w_rd, NR_.w_rn, NR_.w_taped, NR_.w_mfault, NR_.w_mplace, NR_.w_told, NR_.w_hl, NR_.w_hd, qqM_om, QT_.w_om, vqM_nv, NV_.w_nv, zqM_nw, NW_.w_nw] at hQ_28); (try simp only [h_30, (nlt h_30), c_132, h_133, (eq_true h_136), h_217, f_218, h_219, h_235, hx_236, c_259, (eq_true h_265), (eq_true h_266), hx_371, hx_372, hx_373, f_374, if_true, if_false, mqM_tp, mqM_size, mqM_limit, mqM_to, mqM_frm, mqM_kind, mqM_number, mqM_sign, mqM_word, MT_.w_tp, MT_.w_size, MT_.w_limit, MT_.w_to, MT_.w_frm, MT_.w_kind, MT_.w_number, MT_.w_sign, MT_.w_word, nqM_rd, nqM_rn, nqM_taped, nqM_mfault, nqM_mplace, nqM_told, nqM_hl, nqM_hd, NR_.w_rd, NR_.w_rn, NR_.w_taped, NR_.w_mfault, NR_.w_mplace, NR_.w_told, NR_.w_hl, NR_.w_hd, qqM_om, QT_.w_om, vqM_nv, NV_.w_nv, zqM_nw, NW_.w_nw] at u_29); (try simp only [h_30, (nlt h_30), c_132, h_133, (eq_true h_136), h_217, f_218, h_219, h_235, hx_236, c_259, (eq_true h_265), (eq_true h_266), hx_371, hx_372, hx_373, f_374, if_true, if_false, mqM_tp, mqM_size, mqM_limit, mqM_to, mqM_frm, mqM_kind, mqM_number, mqM_sign, mqM_word, MT_.w_tp, MT_.w_size, MT_.w_limit, MT_.w_to, MT_.w_frm, MT_.w_kind, MT_.w_number, MT_.w_sign, MT_.w_word, nqM_rd, nqM_rn, nqM_taped, nqM_mfault, nqM_mplace, nqM_told, nqM_hl, nqM_hd, NR_.w_rd, NR_.w_rn, NR_.w_taped, NR_.w_mfault, NR_.w_mplace, NR_.w_told, NR_.w_hl, NR_.w_hd, qqM_om, QT_.w_om, vqM_nv, NV_.w_nv, zqM_nw, NW_.w_nw] at c_365); simp only [mSd0, mSd1, mSd2, mBadQ, evqx, hs_378, hs_5, ezqx, hs_379, hs_7, emqx, hs_380, hs_9, enqx, hs_381, hs_12, eqqx, hs_382, hs_13, hQ_28, u_29, h_30, (nlt h_30), c_132, h_133, (eq_true h_136), h_217, f_218, h_219, h_235, hx_236, c_259, (eq_true h_265), (eq_true h_266), c_365, hx_371, hx_372, hx_373, f_374, if_true, if_false, mqM_tp, mqM_size, mqM_limit, mqM_to, mqM_frm, mqM_kind, mqM_number, mqM_sign, mqM_word, MT_.w_tp, MT_.w_size, MT_.w_limit, MT_.w_to, MT_.w_frm, MT_.w_kind, MT_.w_number, MT_.w_sign, MT_.w_word, nqM_rd, nqM_rn, nqM_taped, nqM_mfault, nqM_mplace, nqM_told, nqM_hl, nqM_hd, NR_.w_rd, NR_.w_rn, NR_.w_taped, NR_.w_mfault, NR_.w_mplace, NR_.w_told, NR_.w_hl, NR_.w_hd, qqM_om, QT_.w_om, vqM_nv, NV_.w_nv, zqM_nw, NW_.w_nw]), (fun hq => by have n_383 : ¬ x_359 = 0 := hq; have r_384 := ne_lo (lo := 1) n_383 rx_359 rc_0 rfl (by decide); have f_385 := sz_v (fq_at hFI_254 hLx hkx (by decide) (by decide) (kp_j hI_245 (by decide) (kp_j hI_237 (by decide) q_20))) (fq_at hFI_254 hLx hkx (by decide) (by decide) (kp_j hI_245 (by decide) (kp_s hI_237))) hx_371 hx_373 hx_372 (ex_359.1 n_383); have f_386 := (ti_k tx_236 rc_1); exact (sz_m hx_1 hx_2 (kp_j hI_375 (by decide) hx_371) (kp_j hI_375 (by decide) hx_373) (kp_j hI_375 (by decide) hx_372) ⟨by omega, by omega, by omega, by omega⟩)), (kp_s hI_375)⟩ dX12_readSaid_177
                  · skip
                    exact ne_no (h_265) r_216 rc_0
                · skip
                  exact absurd (h_235) (by decide)
            · skip
              have r_387 := lt_r (lo := 28) (nle h_217) rc_27 r_127 (by decide)
              exact rg_no r_387 (by decide)
        · skip
          have r_388 := (⟨(rx_128).1, (eq_rg (h_133) rc_0).2⟩ : Rg 0 0 x_128)
          obtain ⟨x_389, hx_389, rx_389, tx_389⟩ := ex_add (y := 1) 19 28 r_127 rc_1 (by decide) (by decide) (by decide) (by decide)
          refine g_iinc C dX12_readSaid_24 (k := 2) (v := x_389) rfl hx_389 (by decide) (lo2 := [(2, .int x_389), (0, .ref x), (1, .int v_14)]) rfl ?_
          refine g_goto C (tgt := 10) dX12_readSaid_27 (by decide) ?_
          have f_390 : s_13.om = v_17 := (congrArg QT_.om hs_13).symm.trans q_21
          refine g_lo (is := [1, 2, 0]) (lo2 := [(0, .ref x), (1, .int v_14), (2, .int x_389)]) rfl ?_
          exact ih_10 v_14 (rv_14) x_389 (rg_w rx_389 (by decide) (by decide)) v_16 (rv_16) v_17 (rv_17) v_18 (rv_18) v_19 (rv_19) q_20 q_21 q_22 q_23 q_24 (by (try simp only [h_30, (nlt h_30), c_132, (eq_true h_133), hx_389, if_true, if_false, mqM_tp, mqM_size, mqM_limit, mqM_to, mqM_frm, mqM_kind, mqM_number, mqM_sign, mqM_word, MT_.w_tp, MT_.w_size, MT_.w_limit, MT_.w_to, MT_.w_frm, MT_.w_kind, MT_.w_number, MT_.w_sign, MT_.w_word, nqM_rd, nqM_rn, nqM_taped, nqM_mfault, nqM_mplace, nqM_told, nqM_hl, nqM_hd, NR_.w_rd, NR_.w_rn, NR_.w_taped, NR_.w_mfault, NR_.w_mplace, NR_.w_told, NR_.w_hl, NR_.w_hd, qqM_om, QT_.w_om, vqM_nv, NV_.w_nv, zqM_nw, NW_.w_nw] at hQ_28); (try simp only [h_30, (nlt h_30), c_132, (eq_true h_133), hx_389, if_true, if_false, mqM_tp, mqM_size, mqM_limit, mqM_to, mqM_frm, mqM_kind, mqM_number, mqM_sign, mqM_word, MT_.w_tp, MT_.w_size, MT_.w_limit, MT_.w_to, MT_.w_frm, MT_.w_kind, MT_.w_number, MT_.w_sign, MT_.w_word, nqM_rd, nqM_rn, nqM_taped, nqM_mfault, nqM_mplace, nqM_told, nqM_hl, nqM_hd, NR_.w_rd, NR_.w_rn, NR_.w_taped, NR_.w_mfault, NR_.w_mplace, NR_.w_told, NR_.w_hl, NR_.w_hd, qqM_om, QT_.w_om, vqM_nv, NV_.w_nv, zqM_nw, NW_.w_nw] at u_29); simp only [mSd0, mSd1, mSd2, mBadQ, evqx, hs_5, ezqx, hs_7, emqx, hs_9, enqx, hs_12, eqqx, hs_13, hQ_28, u_29, h_30, (nlt h_30), c_132, (eq_true h_133), hx_389, if_true, if_false, mqM_tp, mqM_size, mqM_limit, mqM_to, mqM_frm, mqM_kind, mqM_number, mqM_sign, mqM_word, MT_.w_tp, MT_.w_size, MT_.w_limit, MT_.w_to, MT_.w_frm, MT_.w_kind, MT_.w_number, MT_.w_sign, MT_.w_word, nqM_rd, nqM_rn, nqM_taped, nqM_mfault, nqM_mplace, nqM_told, nqM_hl, nqM_hd, NR_.w_rd, NR_.w_rn, NR_.w_taped, NR_.w_mfault, NR_.w_mplace, NR_.w_told, NR_.w_hl, NR_.w_hd, qqM_om, QT_.w_om, vqM_nv, NV_.w_nv, zqM_nw, NW_.w_nw]) ⟨by omega, by omega⟩ (ms_1 hm_27 (ti_k tx_389 rc_1) (by decide))
  refine g_aload_n C 0 dX12_readSaid_0 rfl rfl ?_
  refine g_bipush C (v := 40) dX12_readSaid_1 (by decide) ?_
  obtain ⟨x_391, hx_391, rx_391⟩ := ex_getw (I := I) (a := x) (j := 7) (lo := 0) (hi := 4) hU.1 hLx (ro_o hkx (by decide)) rfl
  have f_392 : s_9.kind = x_391 := (congrArg MT_.kind hs_9).symm.trans hx_391
  refine g_callVI C K (c_X12_isSign W9 hLx hkx 40 (rg_w rc_40 (by decide) (by decide)) hU) hLx hkx (by decide) rfl v_12_159 rfl ⟨rfl, rfl⟩ ⟨Nat.le_of_ble_eq_true rfl, Nat.le_of_ble_eq_true rfl⟩ (Nat.le_of_ble_eq_true rfl) ⟨Nat.le_of_ble_eq_true rfl, Nat.le_of_ble_eq_true rfl⟩ dX12_readSaid_3 rfl (st := []) (fun x_393 I_394 J_395 h_396 => ?_)
  obtain ⟨rfl, rfl, rx_393, fx_393, ex_393⟩ := h_396
  have c_397 : mIsSign (40) (s_9) = x_393 := by have q := fx_393; simp only [emqx, hs_9] at q; exact q.symm
  have q_398 := hx_391
  refine g_istore_n C dX12_readSaid_6 rfl (by decide) (lo2 := [(1, .int x_393), (0, .ref x)]) rfl ?_
  refine g_bipush C (v := 18) dX12_readSaid_7 (by decide) ?_
  refine g_istore_n C dX12_readSaid_9 rfl (by decide) (lo2 := [(2, .int 18), (1, .int x_393), (0, .ref x)]) rfl ?_
  have f_399 : s_13.om = x_2 := (congrArg QT_.om hs_13).symm.trans hx_2
  refine g_lo (is := [2, 1, 0]) (lo2 := [(0, .ref x), (1, .int x_393), (2, .int 18)]) rfl ?_
  exact l_10 11 x_393 (rx_393) 18 (rg_w rc_18 (by decide) (by decide)) x_1 (rx_1) x_2 (rx_2) x_3 (rx_3) x_391 (rx_391) hx_1 hx_2 hwi hx_3 hx_391 (by simp only [mSaid_k8, mSd0, mSd1, mSd2, mBadQ, evqx, hs_5, ezqx, hs_7, emqx, hs_9, enqx, hs_12, eqqx, hs_13, hx_1, hx_2, hx_3, hx_391, f_392, c_397, if_true, if_false, mqM_tp, mqM_size, mqM_limit, mqM_to, mqM_frm, mqM_kind, mqM_number, mqM_sign, mqM_word, MT_.w_tp, MT_.w_size, MT_.w_limit, MT_.w_to, MT_.w_frm, MT_.w_kind, MT_.w_number, MT_.w_sign, MT_.w_word, nqM_rd, nqM_rn, nqM_taped, nqM_mfault, nqM_mplace, nqM_told, nqM_hl, nqM_hd, NR_.w_rd, NR_.w_rn, NR_.w_taped, NR_.w_mfault, NR_.w_mplace, NR_.w_told, NR_.w_hl, NR_.w_hd, qqM_om, QT_.w_om, vqM_nv, NV_.w_nv, zqM_nw, NW_.w_nw]) ⟨by omega, by omega⟩ (ms_s (a := 18) (b := 28) (N := 11) (rg_w rc_18 (by decide) (by decide)) (by decide))
set_option maxRecDepth 100000 in
set_option maxHeartbeats 8000000 in
theorem c_X12_readAnd_0 {l : Launch} {D : va_G} {cy : Nat → ClassId} {L : List Nat} {κ ln : Nat → Nat} {R : Nat → Nat → Option Nat} {I : Nat → Nat → Int32} {J : Nat → Nat → Int64} {ow : Nat → Nat × Nat} (W9 : ∀ a ∈ L, Shp L κ ln R ow a) {x : Nat} (hLx : x ∈ L) (hkx : κ x = 12) (hU : Iw L κ R ow I) (hn : (I x 47).toInt ≤ 2 * (I x 48).toInt) (hwi : I x 49 = 0) : CtI l yX12_readAnd cX12_readAnd 2 (some .boolean) { frames := 36, cells := 0, slots := 0, locals := 772 } D cy L κ ln R I J [.ref x] (fun r I2 J2 => Iw L κ R ow I2 ∧ Fq L κ ow [1205, 1206, 1207, 1208, 1209, 1210, 1211, 1213, 1247, 1248, 1249, 1250, 86600] I I2 ∧ Fq L κ ow [1212] J J2 ∧ Rg 0 1 r ∧ ((r, MTf R I2 J2 x, NRf R I2 J2 x, QTf R I2 J2 x) = mAndK 8 (NVf R I J x) (NWf R I J x) (MTf R I J x) (NRf R I J x) (QTf R I J x)) ∧ (¬ r = 0 → Sz_ x I I2 1) ∧ (I2 x 49 = 0)) := by
  obtain ⟨x_1, hx_1, rx_1⟩ := ex_getw (I := I) (a := x) (j := 47) (lo := 0) (hi := 60) hU.1 hLx (ro_o hkx (by decide)) rfl
  obtain ⟨x_2, hx_2, rx_2⟩ := ex_getw (I := I) (a := x) (j := 48) (lo := 0) (hi := 20) hU.1 hLx (ro_o hkx (by decide)) rfl
  rw [hx_1, hx_2] at hn
  obtain ⟨x_3, hx_3, rx_3⟩ := ex_getw (I := I) (a := x) (j := 50) (lo := 0) (hi := 59) hU.1 hLx (ro_o hkx (by decide)) rfl
  refine CtI.of (by decide +kernel) (Nat.le_of_ble_eq_true rfl) ?_
  intro p e s m below meth c B K
  have C := B.1
  have hF : Fq L κ ow [1205, 1206, 1207, 1208, 1209, 1210, 1211, 1213, 1247, 1248, 1249, 1250, 86600] I I := fq_rf
  have hG : Fq L κ ow [1212] J J := fq_rf
  obtain ⟨b_4, hb_4, hb_4L, hb_4k, hb_4n, hb_4o⟩ := shp_a (W9 x hLx) hkx 19 15 13 rfl (by decide)
  have evqx : ∀ I J, NVf R I J x = NVq I J x b_4 := fun I J => by simp only [NVf, rr_, Option.getD_some, hb_4]
  have wvqx : vqw_ L κ ow x b_4 := ⟨⟨hLx, hb_4L⟩, ⟨(ro_o hkx (by decide)), (ro_a hb_4k (by decide) hb_4o hkx rfl)⟩⟩
  obtain ⟨s_5, hs_5⟩ : ∃ z, NVq I J x b_4 = z := ⟨_, rfl⟩
  obtain ⟨b_6, hb_6, hb_6L, hb_6k, hb_6n, hb_6o⟩ := shp_a (W9 x hLx) hkx 14 14 389 rfl (by decide)
  have ezqx : ∀ I J, NWf R I J x = NWq I J x b_6 := fun I J => by simp only [NWf, rr_, Option.getD_some, hb_6]
  have wzqx : zqw_ L κ ow x b_6 := ⟨⟨hLx, hb_6L⟩, ⟨(ro_o hkx (by decide)), (ro_a hb_6k (by decide) hb_6o hkx rfl)⟩⟩
  obtain ⟨s_7, hs_7⟩ : ∃ z, NWq I J x b_6 = z := ⟨_, rfl⟩
  obtain ⟨b_8, hb_8, hb_8L, hb_8k, hb_8n, hb_8o⟩ := shp_a (W9 x hLx) hkx 1 14 940 rfl (by decide)
  have emqx : ∀ I J, MTf R I J x = MTq I J x b_8 := fun I J => by simp only [MTf, rr_, Option.getD_some, hb_8]
  have wmqx : mqw_ L κ ow x b_8 := ⟨⟨hLx, hb_8L⟩, ⟨(ro_o hkx (by decide)), (ro_a hb_8k (by decide) hb_8o hkx rfl)⟩⟩
  obtain ⟨s_9, hs_9⟩ : ∃ z, MTq I J x b_8 = z := ⟨_, rfl⟩
  obtain ⟨b_10, hb_10, hb_10L, hb_10k, hb_10n, hb_10o⟩ := shp_a (W9 x hLx) hkx 15 14 72 rfl (by decide)
  obtain ⟨b_11, hb_11, hb_11L, hb_11k, hb_11n, hb_11o⟩ := shp_a (W9 x hLx) hkx 20 15 13 rfl (by decide)
  have enqx : ∀ I J, NRf R I J x = NRq I J x b_10 b_11 := fun I J => by simp only [NRf, rr_, Option.getD_some, hb_10, hb_11]
  have wnqx : nqw_ L κ ow x b_10 b_11 := ⟨⟨hLx, hb_10L, hb_11L⟩, ⟨(ro_o hkx (by decide)), (ro_a hb_10k (by decide) hb_10o hkx rfl), (ro_a hb_11k (by decide) hb_11o hkx rfl)⟩⟩
  obtain ⟨s_12, hs_12⟩ : ∃ z, NRq I J x b_10 b_11 = z := ⟨_, rfl⟩
  have eqqx : ∀ I J, QTf R I J x = QTq I J x := fun I J => by simp only [QTf, rr_, Option.getD_some]
  have wqqx : qqw_ L κ ow x := ⟨hLx, (ro_o hkx (by decide))⟩
  obtain ⟨s_13, hs_13⟩ : ∃ z, QTq I J x = z := ⟨_, rfl⟩
  refine g_lo (is := [0]) (lo2 := [(0, .ref x)]) rfl ?_
  have l_14 : ∀ (n_14 : Nat) (I_14 : Nat → Nat → Int32) (J_15 : Nat → Nat → Int64) (hU_16 : Iw L κ R ow I_14) (hF_17 : Fq L κ ow [1205, 1206, 1207, 1208, 1209, 1210, 1211, 1213, 1247, 1248, 1249, 1250, 86600] I I_14) (hG_18 : Fq L κ ow [1212] J J_15) (v_19 : Int32) (rv_19 : Rg 0 59 v_19) (v_20 : Int32) (rv_20 : Rg 0 60 v_20) (v_21 : Int32) (rv_21 : Rg 0 20 v_21) (v_22 : Int32) (rv_22 : Rg 0 59 v_22) (q_23 : I_14 x 47 = v_20) (q_24 : I_14 x 48 = v_21) (q_25 : I_14 x 49 = 0) (q_26 : I_14 x 50 = v_22) (hq_27 : mLp (mSaid 8 (NVq I_14 J_15 x b_4) (NWq I_14 J_15 x b_6)) 17 n_14 (MTq I_14 J_15 x b_8) (NRq I_14 J_15 x b_10 b_11) (QTq I_14 J_15 x) = mAndK 8 s_5 s_7 s_9 s_12 s_13) (hj_28 : x_1.toInt ≤ v_20.toInt ∧ x_2.toInt + 1 ≤ v_21.toInt ∧ 2 * x_2.toInt - x_1.toInt + 1 ≤ 2 * v_21.toInt - v_20.toInt ∧ v_19.toInt < v_20.toInt) (hm_29 : 20 < v_21.toInt + (n_14 : Int)), WG p l e { frames := 36, cells := 0, slots := 0, locals := 772 } s m ([.ref x] : List Value).toArray below meth c 2 0 0 (MQ below (Qi_ D cy L κ ln R (fun r I2 J2 => Iw L κ R ow I2 ∧ Fq L κ ow [1205, 1206, 1207, 1208, 1209, 1210, 1211, 1213, 1247, 1248, 1249, 1250, 86600] I I2 ∧ Fq L κ ow [1212] J J2 ∧ Rg 0 1 r ∧ ((r, MTf R I2 J2 x, NRf R I2 J2 x, QTf R I2 J2 x) = mAndK 8 (NVf R I J x) (NWf R I J x) (MTf R I J x) (NRf R I J x) (QTf R I J x)) ∧ (¬ r = 0 → Sz_ x I I2 1) ∧ (I2 x 49 = 0))) ([.ref x] : List Value).toArray s 0 0 (Al_ L)) D cy (Al_ L) s.heap L κ ln R I_14 J_15 14 [(0, .ref x), (1, .int v_19)] [] := by
    intro n_14
    induction n_14 with
    | zero =>
      intro I_14 J_15 hU_16 hF_17 hG_18 v_19 rv_19 v_20 rv_20 v_21 rv_21 v_22 rv_22 q_23 q_24 q_25 q_26 hq_27 hj_28 hm_29
      exact absurd hm_29 (by have := (rv_21).2; omega)
    | succ n_14 ih_14 =>
      intro I_14 J_15 hU_16 hF_17 hG_18 v_19 rv_19 v_20 rv_20 v_21 rv_21 v_22 rv_22 q_23 q_24 q_25 q_26 hq_27 hj_28 hm_29
      obtain ⟨s_30, hs_30⟩ : ∃ z, NVq I_14 J_15 x b_4 = z := ⟨_, rfl⟩
      obtain ⟨s_31, hs_31⟩ : ∃ z, NWq I_14 J_15 x b_6 = z := ⟨_, rfl⟩
      obtain ⟨s_32, hs_32⟩ : ∃ z, MTq I_14 J_15 x b_8 = z := ⟨_, rfl⟩
      obtain ⟨s_33, hs_33⟩ : ∃ z, NRq I_14 J_15 x b_10 b_11 = z := ⟨_, rfl⟩
      obtain ⟨s_34, hs_34⟩ : ∃ z, QTq I_14 J_15 x = z := ⟨_, rfl⟩
      simp only [hs_30, hs_31, hs_32, hs_33, hs_34] at hq_27
      have hQ_35 := hq_27.symm
      have u_36 := mLp_eq (rd := mSaid 8 s_30 s_31) (k := 17) (f := n_14) (m := s_32) (n := s_33) (q := s_34)
      refine g_aload_n C 0 dX12_readAnd_14 rfl rfl ?_
      refine g_bipush C (v := 17) dX12_readAnd_15 (by decide) ?_
      refine g_callVI C K (c_X12_isWord W9 hLx hkx 17 (rg_w rc_17 (by decide) (by decide)) hU_16) hLx hkx (by decide) rfl v_12_191 rfl ⟨rfl, rfl⟩ ⟨Nat.le_of_ble_eq_true rfl, Nat.le_of_ble_eq_true rfl⟩ (Nat.le_of_ble_eq_true rfl) ⟨Nat.le_of_ble_eq_true rfl, Nat.le_of_ble_eq_true rfl⟩ dX12_readAnd_17 rfl (st := []) (fun x_37 I_38 J_39 h_40 => ?_)
      obtain ⟨rfl, rfl, rx_37, fx_37⟩ := h_40
      have c_41 : mIsWord (17) (s_32) = x_37 := by have q := fx_37; simp only [emqx, hs_32] at q; exact q.symm
      refine g_if_eq C (tgt := 51) dX12_readAnd_20 (by decide) (fun h_42 => ?_) (fun h_42 => ?_)
      · skip
        have r_43 := (⟨(rx_37).1, (eq_rg (h_42) rc_0).2⟩ : Rg 0 0 x_37)
        refine g_aload_n C 0 dX12_readAnd_51 rfl rfl ?_
        refine g_iload_n C 1 dX12_readAnd_52 rfl rfl ?_
        refine h_putI C K hLx hkx f_12_386 p_12_50 dX12_readAnd_53 (fun I_44 hI_44 => ?_)
        have hU_45 := iw_put W9 hU_16 hI_44 (ro_o hkx (by decide)) (lo := 0) (hi := 59) (rfl) (rv_19) rfl
        have hF_46 := fq_puto hF_17 hI_44 hkx (by decide) (by decide)
        have hs_47 : NVq I_44 J_15 x b_4 = s_30 := by rw [hI_44]; exact (vq_oI wvqx (ro_o hkx (by decide)) (by decide)).trans hs_30
        have hs_48 : NWq I_44 J_15 x b_6 = s_31 := by rw [hI_44]; exact (zq_oI wzqx (ro_o hkx (by decide)) (by decide)).trans hs_31
        have hs_49 : MTq I_44 J_15 x b_8 = s_32 := by rw [hI_44]; exact (mq_uIt wmqx (by decide)).trans hs_32
        have hs_50 : NRq I_44 J_15 x b_10 b_11 = s_33 := by rw [hI_44]; exact (nq_uIt wnqx (by decide)).trans hs_33
        have hs_51 : QTq I_44 J_15 x = s_34 := by rw [hI_44]; exact (qq_uIt wqqx (by decide)).trans hs_34
        refine g_iconst C (v := 1) dX12_readAnd_56 (by decide) ?_
        have f_52 : s_34.om = v_21 := (congrArg QT_.om hs_51).symm.trans (kp_j hI_44 (by decide) q_24)
        exact g_zret (ty := .boolean) (r := 1) B K rfl (rfl) ⟨hU_45, hF_46, hG_18, rg_w rc_1 (by decide) (by decide), (by (try simp only [c_41, (eq_true h_42), if_true, if_false, mqM_tp, mqM_size, mqM_limit, mqM_to, mqM_frm, mqM_kind, mqM_number, mqM_sign, mqM_word, MT_.w_tp, MT_.w_size, MT_.w_limit, MT_.w_to, MT_.w_frm, MT_.w_kind, MT_.w_number, MT_.w_sign, MT_.w_word, nqM_rd, nqM_rn, nqM_taped, nqM_mfault, nqM_mplace, nqM_told, nqM_hl, nqM_hd, NR_.w_rd, NR_.w_rn, NR_.w_taped, NR_.w_mfault, NR_.w_mplace, NR_.w_told, NR_.w_hl, NR_.w_hd, qqM_om, QT_.w_om, vqM_nv, NV_.w_nv, zqM_nw, NW_.w_nw] at hQ_35); (try simp only [c_41, (eq_true h_42), if_true, if_false, mqM_tp, mqM_size, mqM_limit, mqM_to, mqM_frm, mqM_kind, mqM_number, mqM_sign, mqM_word, MT_.w_tp, MT_.w_size, MT_.w_limit, MT_.w_to, MT_.w_frm, MT_.w_kind, MT_.w_number, MT_.w_sign, MT_.w_word, nqM_rd, nqM_rn, nqM_taped, nqM_mfault, nqM_mplace, nqM_told, nqM_hl, nqM_hd, NR_.w_rd, NR_.w_rn, NR_.w_taped, NR_.w_mfault, NR_.w_mplace, NR_.w_told, NR_.w_hl, NR_.w_hd, qqM_om, QT_.w_om, vqM_nv, NV_.w_nv, zqM_nw, NW_.w_nw] at u_36); simp only [evqx, hs_47, hs_5, ezqx, hs_48, hs_7, emqx, hs_49, hs_9, enqx, hs_50, hs_12, eqqx, hs_51, hs_13, hQ_35, u_36, c_41, (eq_true h_42), if_true, if_false, mqM_tp, mqM_size, mqM_limit, mqM_to, mqM_frm, mqM_kind, mqM_number, mqM_sign, mqM_word, MT_.w_tp, MT_.w_size, MT_.w_limit, MT_.w_to, MT_.w_frm, MT_.w_kind, MT_.w_number, MT_.w_sign, MT_.w_word, nqM_rd, nqM_rn, nqM_taped, nqM_mfault, nqM_mplace, nqM_told, nqM_hl, nqM_hd, NR_.w_rd, NR_.w_rn, NR_.w_taped, NR_.w_mfault, NR_.w_mplace, NR_.w_told, NR_.w_hl, NR_.w_hd, qqM_om, QT_.w_om, vqM_nv, NV_.w_nv, zqM_nw, NW_.w_nw]), (fun _ => (sz_m hx_1 hx_2 (kp_j hI_44 (by decide) q_23) (kp_j hI_44 (by decide) q_24) (kp_s hI_44) ⟨by omega, by omega, by omega, by omega⟩)), (kp_j hI_44 (by decide) q_25)⟩ dX12_readAnd_57
      · skip
        have n_53 : ¬ x_37 = 0 := h_42
        have r_54 := ne_lo (lo := 1) n_53 rx_37 rc_0 rfl (by decide)
        refine g_aload_n C 0 dX12_readAnd_23 rfl rfl ?_
        refine g_callVV C K (c_X12_go W9 hLx hkx   hU_16) hLx hkx (by decide) rfl v_12_156 rfl ⟨rfl, rfl⟩ ⟨Nat.le_of_ble_eq_true rfl, Nat.le_of_ble_eq_true rfl⟩ (Nat.le_of_ble_eq_true rfl) ⟨Nat.le_of_ble_eq_true rfl, Nat.le_of_ble_eq_true rfl⟩ dX12_readAnd_24 rfl (st := []) (fun I_56 J_57 h_58 => ?_)
        obtain ⟨hUI_56, hFI_56, hGJ_57, fx_55, ex_55⟩ := h_58
        have hF_59 := fq_tr hF_17 hFI_56 (by decide)
        have hG_60 := fq_tr hG_18 hGJ_57 (by decide)
        obtain ⟨s_62, hs_62⟩ : ∃ z, MTq I_56 J_57 x b_8 = z := ⟨_, rfl⟩
        have c_61 : mGo (s_32) = s_62 := by have q := fx_55; simp only [emqx, hs_32, hs_62] at q; exact q.symm
        have hs_63 : NVq I_56 J_57 x b_4 = s_30 := (vq_fq wvqx hFI_56 hGJ_57 (by decide) (by decide)).trans hs_30
        have hs_64 : NWq I_56 J_57 x b_6 = s_31 := (zq_fq wzqx hFI_56 hGJ_57 (by decide) (by decide)).trans hs_31
        have hs_65 : NRq I_56 J_57 x b_10 b_11 = s_33 := (nq_fq wnqx hFI_56 hGJ_57 (by decide) (by decide)).trans hs_33
        have hs_66 : QTq I_56 J_57 x = s_34 := (qq_fq wqqx hFI_56 hGJ_57 (by decide) (by decide)).trans hs_34
        refine g_aload_n C 0 dX12_readAnd_27 rfl rfl ?_
        have f_67 : s_34.om = v_21 := (congrArg QT_.om hs_66).symm.trans (fq_at hFI_56 hLx hkx (by decide) (by decide) q_24)
        refine g_callVI C K (c_X12_readSaid_0 W9 hLx hkx   hUI_56  (by rw [(fq_at hFI_56 hLx hkx (by decide) (by decide) q_23), (fq_at hFI_56 hLx hkx (by decide) (by decide) q_24)]; omega) ((fq_at hFI_56 hLx hkx (by decide) (by decide) q_25))) hLx hkx (by decide) rfl v_12_392 rfl ⟨rfl, rfl⟩ ⟨Nat.le_of_ble_eq_true rfl, Nat.le_of_ble_eq_true rfl⟩ (Nat.le_of_ble_eq_true rfl) ⟨Nat.le_of_ble_eq_true rfl, Nat.le_of_ble_eq_true rfl⟩ dX12_readAnd_28 rfl (st := []) (fun x_68 I_69 J_70 h_71 => ?_)
        obtain ⟨hUI_69, hFI_69, hGJ_70, rx_68, fx_68, ex_68⟩ := h_71
        have hF_72 := fq_tr hF_59 hFI_69 (by decide)
        have hG_73 := fq_tr hG_60 hGJ_70 (by decide)
        obtain ⟨s_75, hs_75⟩ : ∃ z, MTq I_69 J_70 x b_8 = z := ⟨_, rfl⟩
        obtain ⟨s_76, hs_76⟩ : ∃ z, NRq I_69 J_70 x b_10 b_11 = z := ⟨_, rfl⟩
        obtain ⟨s_77, hs_77⟩ : ∃ z, QTq I_69 J_70 x = z := ⟨_, rfl⟩
        have c_74 : mSaid 8 (s_30) (s_31) (s_62) (s_33) (s_34) = (x_68, s_75, s_76, s_77) := by have q := fx_68; simp only [evqx, ezqx, emqx, enqx, eqqx, hs_63, hs_64, hs_62, hs_65, hs_66, hs_75, hs_76, hs_77] at q; exact q.symm
        have hs_78 : NVq I_69 J_70 x b_4 = s_30 := (vq_fq wvqx hFI_69 hGJ_70 (by decide) (by decide)).trans hs_63
        have hs_79 : NWq I_69 J_70 x b_6 = s_31 := (zq_fq wzqx hFI_69 hGJ_70 (by decide) (by decide)).trans hs_64
        obtain ⟨x_80, hx_80, rx_80⟩ := ex_getw (I := I_69) (a := x) (j := 47) (lo := 0) (hi := 60) hUI_69.1 hLx (ro_o hkx (by decide)) rfl
        obtain ⟨x_81, hx_81, rx_81⟩ := ex_getw (I := I_69) (a := x) (j := 50) (lo := 0) (hi := 59) hUI_69.1 hLx (ro_o hkx (by decide)) rfl
        obtain ⟨x_82, hx_82, rx_82⟩ := ex_getw (I := I_69) (a := x) (j := 48) (lo := 0) (hi := 20) hUI_69.1 hLx (ro_o hkx (by decide)) rfl
        have f_83 : s_77.om = x_82 := (congrArg QT_.om hs_77).symm.trans hx_82
        refine g_if_ne C (tgt := 36) dX12_readAnd_31 (by decide) (fun h_84 => ?_) (fun h_84 => ?_)
        · skip
          have n_85 : ¬ x_68 = 0 := h_84
          have r_86 := ne_lo (lo := 1) n_85 rx_68 rc_0 rfl (by decide)
          have f_87 := sz_v (fq_at hFI_56 hLx hkx (by decide) (by decide) q_23) (fq_at hFI_56 hLx hkx (by decide) (by decide) q_24) hx_80 hx_82 hx_81 (ex_68.1 n_85)
          refine g_aload_n C 0 dX12_readAnd_36 rfl rfl ?_
          refine g_iconst C (v := 2) dX12_readAnd_37 (by decide) ?_
          refine g_iload_n C 1 dX12_readAnd_38 rfl rfl ?_
          refine g_aload_n C 0 dX12_readAnd_39 rfl rfl ?_
          refine g_getI C K hLx hkx f_12_386 (v := x_81) hx_81 dX12_readAnd_40 ?_
          refine g_iconst C (v := 0) dX12_readAnd_43 (by decide) ?_
          have r_88 := (show Rg 0 59 x_80 from by have q1 := rx_80; have q2 := rx_82; unfold Rg at *; omega)
          refine g_callVI C K (c_X12_saysOne W9 hLx hkx 2 v_19 x_81 0 (rg_w rc_2 (by decide) (by decide)) (rv_19) (rg_w rx_81 (by decide) (by decide)) hUI_69  (eq_rg hx_80 (r_88)) (by rw [hx_80]; exact ⟨fun _ => ⟨by have := (rv_19).1; omega, by omega⟩, fun _ => ⟨by have := (rx_81).1; omega, by omega⟩, fun q => absurd q (by decide)⟩)) hLx hkx (by decide) rfl v_12_389 rfl ⟨rfl, rfl⟩ ⟨Nat.le_of_ble_eq_true rfl, Nat.le_of_ble_eq_true rfl⟩ (Nat.le_of_ble_eq_true rfl) ⟨Nat.le_of_ble_eq_true rfl, Nat.le_of_ble_eq_true rfl⟩ dX12_readAnd_44 rfl (st := []) (fun x_89 I_90 J_91 h_92 => ?_)
          obtain ⟨hUI_90, hFI_90, hGJ_91, rx_89, ex_89⟩ := h_92
          have hF_93 := fq_tr hF_72 hFI_90 (by decide)
          have hG_94 := fq_tr hG_73 hGJ_91 (by decide)
          have hs_95 : NVq I_90 J_91 x b_4 = s_30 := (vq_fq wvqx hFI_90 hGJ_91 (by decide) (by decide)).trans hs_78
          have hs_96 : NWq I_90 J_91 x b_6 = s_31 := (zq_fq wzqx hFI_90 hGJ_91 (by decide) (by decide)).trans hs_79
          have hs_97 : MTq I_90 J_91 x b_8 = s_75 := (mq_fq wmqx hFI_90 hGJ_91 (by decide) (by decide)).trans hs_75
          have hs_98 : NRq I_90 J_91 x b_10 b_11 = s_76 := (nq_fq wnqx hFI_90 hGJ_91 (by decide) (by decide)).trans hs_76
          have hs_99 : QTq I_90 J_91 x = s_77 := (qq_fq wqqx hFI_90 hGJ_91 (by decide) (by decide)).trans hs_77
          obtain ⟨x_100, hx_100, rx_100, tx_100, ux_100⟩ := sa_b (lo := 1) (hi := 60) ex_89 hx_80 r_88 (by decide) (by decide)
          have r_101 := (show Rg 0 59 x_89 from by have q1 := ux_100; have q2 := r_88; unfold Rg at *; omega)
          refine g_istore_n C dX12_readAnd_47 rfl (by decide) (lo2 := [(1, .int x_89), (0, .ref x)]) rfl ?_
          refine g_goto C (tgt := 14) dX12_readAnd_48 (by decide) ?_
          refine g_lo (is := [1, 0]) (lo2 := [(0, .ref x), (1, .int x_89)]) rfl ?_
          exact ih_14 I_90 J_91 hUI_90 hF_93 hG_94 x_89 (r_101) x_100 (rg_w rx_100 (by decide) (by decide)) x_82 (rx_82) x_81 (rx_81) hx_100 (fq_at hFI_90 hLx hkx (by decide) (by decide) hx_82) (fq_at hFI_90 hLx hkx (by decide) (by decide) ex_68.2) (fq_at hFI_90 hLx hkx (by decide) (by decide) hx_81) (by (try simp only [c_41, h_42, c_61, f_67, c_74, hx_80, hx_81, hx_82, f_83, h_84, hx_100, if_true, if_false, mqM_tp, mqM_size, mqM_limit, mqM_to, mqM_frm, mqM_kind, mqM_number, mqM_sign, mqM_word, MT_.w_tp, MT_.w_size, MT_.w_limit, MT_.w_to, MT_.w_frm, MT_.w_kind, MT_.w_number, MT_.w_sign, MT_.w_word, nqM_rd, nqM_rn, nqM_taped, nqM_mfault, nqM_mplace, nqM_told, nqM_hl, nqM_hd, NR_.w_rd, NR_.w_rn, NR_.w_taped, NR_.w_mfault, NR_.w_mplace, NR_.w_told, NR_.w_hl, NR_.w_hd, qqM_om, QT_.w_om, vqM_nv, NV_.w_nv, zqM_nw, NW_.w_nw] at hQ_35); (try simp only [c_41, h_42, c_61, f_67, c_74, hx_80, hx_81, hx_82, f_83, h_84, hx_100, if_true, if_false, mqM_tp, mqM_size, mqM_limit, mqM_to, mqM_frm, mqM_kind, mqM_number, mqM_sign, mqM_word, MT_.w_tp, MT_.w_size, MT_.w_limit, MT_.w_to, MT_.w_frm, MT_.w_kind, MT_.w_number, MT_.w_sign, MT_.w_word, nqM_rd, nqM_rn, nqM_taped, nqM_mfault, nqM_mplace, nqM_told, nqM_hl, nqM_hd, NR_.w_rd, NR_.w_rn, NR_.w_taped, NR_.w_mfault, NR_.w_mplace, NR_.w_told, NR_.w_hl, NR_.w_hd, qqM_om, QT_.w_om, vqM_nv, NV_.w_nv, zqM_nw, NW_.w_nw] at u_36); simp only [evqx, hs_95, hs_5, ezqx, hs_96, hs_7, emqx, hs_97, hs_9, enqx, hs_98, hs_12, eqqx, hs_99, hs_13, hQ_35, u_36, c_41, h_42, c_61, f_67, c_74, hx_80, hx_81, hx_82, f_83, h_84, hx_100, if_true, if_false, mqM_tp, mqM_size, mqM_limit, mqM_to, mqM_frm, mqM_kind, mqM_number, mqM_sign, mqM_word, MT_.w_tp, MT_.w_size, MT_.w_limit, MT_.w_to, MT_.w_frm, MT_.w_kind, MT_.w_number, MT_.w_sign, MT_.w_word, nqM_rd, nqM_rn, nqM_taped, nqM_mfault, nqM_mplace, nqM_told, nqM_hl, nqM_hd, NR_.w_rd, NR_.w_rn, NR_.w_taped, NR_.w_mfault, NR_.w_mplace, NR_.w_told, NR_.w_hl, NR_.w_hd, qqM_om, QT_.w_om, vqM_nv, NV_.w_nv, zqM_nw, NW_.w_nw]) ⟨by have := tx_100; omega, by have := tx_100; omega, by have := tx_100; omega, by have := tx_100; omega⟩ (by have q9 := hm_29; have := tx_100; omega)
        · skip
          have r_102 := (⟨(rx_68).1, (eq_rg (h_84) rc_0).2⟩ : Rg 0 0 x_68)
          refine g_iconst C (v := 0) dX12_readAnd_34 (by decide) ?_
          exact g_zret (ty := .boolean) (r := 0) B K rfl (rfl) ⟨hUI_69, hF_72, hG_73, rg_w rc_0 (by decide) (by decide), (by (try simp only [c_41, h_42, c_61, f_67, c_74, hx_80, hx_81, hx_82, f_83, (eq_true h_84), if_true, if_false, mqM_tp, mqM_size, mqM_limit, mqM_to, mqM_frm, mqM_kind, mqM_number, mqM_sign, mqM_word, MT_.w_tp, MT_.w_size, MT_.w_limit, MT_.w_to, MT_.w_frm, MT_.w_kind, MT_.w_number, MT_.w_sign, MT_.w_word, nqM_rd, nqM_rn, nqM_taped, nqM_mfault, nqM_mplace, nqM_told, nqM_hl, nqM_hd, NR_.w_rd, NR_.w_rn, NR_.w_taped, NR_.w_mfault, NR_.w_mplace, NR_.w_told, NR_.w_hl, NR_.w_hd, qqM_om, QT_.w_om, vqM_nv, NV_.w_nv, zqM_nw, NW_.w_nw] at hQ_35); (try simp only [c_41, h_42, c_61, f_67, c_74, hx_80, hx_81, hx_82, f_83, (eq_true h_84), if_true, if_false, mqM_tp, mqM_size, mqM_limit, mqM_to, mqM_frm, mqM_kind, mqM_number, mqM_sign, mqM_word, MT_.w_tp, MT_.w_size, MT_.w_limit, MT_.w_to, MT_.w_frm, MT_.w_kind, MT_.w_number, MT_.w_sign, MT_.w_word, nqM_rd, nqM_rn, nqM_taped, nqM_mfault, nqM_mplace, nqM_told, nqM_hl, nqM_hd, NR_.w_rd, NR_.w_rn, NR_.w_taped, NR_.w_mfault, NR_.w_mplace, NR_.w_told, NR_.w_hl, NR_.w_hd, qqM_om, QT_.w_om, vqM_nv, NV_.w_nv, zqM_nw, NW_.w_nw] at u_36); simp only [evqx, hs_78, hs_5, ezqx, hs_79, hs_7, emqx, hs_75, hs_9, enqx, hs_76, hs_12, eqqx, hs_77, hs_13, hQ_35, u_36, c_41, h_42, c_61, f_67, c_74, hx_80, hx_81, hx_82, f_83, (eq_true h_84), if_true, if_false, mqM_tp, mqM_size, mqM_limit, mqM_to, mqM_frm, mqM_kind, mqM_number, mqM_sign, mqM_word, MT_.w_tp, MT_.w_size, MT_.w_limit, MT_.w_to, MT_.w_frm, MT_.w_kind, MT_.w_number, MT_.w_sign, MT_.w_word, nqM_rd, nqM_rn, nqM_taped, nqM_mfault, nqM_mplace, nqM_told, nqM_hl, nqM_hd, NR_.w_rd, NR_.w_rn, NR_.w_taped, NR_.w_mfault, NR_.w_mplace, NR_.w_told, NR_.w_hl, NR_.w_hd, qqM_om, QT_.w_om, vqM_nv, NV_.w_nv, zqM_nw, NW_.w_nw]), (fun q => absurd rfl q), ex_68.2⟩ dX12_readAnd_35
  refine g_aload_n C 0 dX12_readAnd_0 rfl rfl ?_
  have f_103 : s_13.om = x_2 := (congrArg QT_.om hs_13).symm.trans hx_2
  refine g_callVI C K (c_X12_readSaid_0 W9 hLx hkx   hU  (by rw [hx_1, hx_2]; omega) (hwi)) hLx hkx (by decide) rfl v_12_392 rfl ⟨rfl, rfl⟩ ⟨Nat.le_of_ble_eq_true rfl, Nat.le_of_ble_eq_true rfl⟩ (Nat.le_of_ble_eq_true rfl) ⟨Nat.le_of_ble_eq_true rfl, Nat.le_of_ble_eq_true rfl⟩ dX12_readAnd_1 rfl (st := []) (fun x_104 I_105 J_106 h_107 => ?_)
  obtain ⟨hUI_105, hFI_105, hGJ_106, rx_104, fx_104, ex_104⟩ := h_107
  have hF_108 := fq_tr hF hFI_105 (by decide)
  have hG_109 := fq_tr hG hGJ_106 (by decide)
  obtain ⟨s_111, hs_111⟩ : ∃ z, MTq I_105 J_106 x b_8 = z := ⟨_, rfl⟩
  obtain ⟨s_112, hs_112⟩ : ∃ z, NRq I_105 J_106 x b_10 b_11 = z := ⟨_, rfl⟩
  obtain ⟨s_113, hs_113⟩ : ∃ z, QTq I_105 J_106 x = z := ⟨_, rfl⟩
  have c_110 : mSaid 8 (s_5) (s_7) (s_9) (s_12) (s_13) = (x_104, s_111, s_112, s_113) := by have q := fx_104; simp only [evqx, ezqx, emqx, enqx, eqqx, hs_5, hs_7, hs_9, hs_12, hs_13, hs_111, hs_112, hs_113] at q; exact q.symm
  have hs_114 : NVq I_105 J_106 x b_4 = s_5 := (vq_fq wvqx hFI_105 hGJ_106 (by decide) (by decide)).trans hs_5
  have hs_115 : NWq I_105 J_106 x b_6 = s_7 := (zq_fq wzqx hFI_105 hGJ_106 (by decide) (by decide)).trans hs_7
  obtain ⟨x_116, hx_116, rx_116⟩ := ex_getw (I := I_105) (a := x) (j := 47) (lo := 0) (hi := 60) hUI_105.1 hLx (ro_o hkx (by decide)) rfl
  obtain ⟨x_117, hx_117, rx_117⟩ := ex_getw (I := I_105) (a := x) (j := 50) (lo := 0) (hi := 59) hUI_105.1 hLx (ro_o hkx (by decide)) rfl
  obtain ⟨x_118, hx_118, rx_118⟩ := ex_getw (I := I_105) (a := x) (j := 48) (lo := 0) (hi := 20) hUI_105.1 hLx (ro_o hkx (by decide)) rfl
  have f_119 : s_113.om = x_118 := (congrArg QT_.om hs_113).symm.trans hx_118
  refine g_if_ne C (tgt := 9) dX12_readAnd_4 (by decide) (fun h_120 => ?_) (fun h_120 => ?_)
  · skip
    have n_121 : ¬ x_104 = 0 := h_120
    have r_122 := ne_lo (lo := 1) n_121 rx_104 rc_0 rfl (by decide)
    have f_123 := sz_v hx_1 hx_2 hx_116 hx_118 hx_117 (ex_104.1 n_121)
    refine g_aload_n C 0 dX12_readAnd_9 rfl rfl ?_
    refine g_getI C K hLx hkx f_12_386 (v := x_117) hx_117 dX12_readAnd_10 ?_
    refine g_istore_n C dX12_readAnd_13 rfl (by decide) (lo2 := [(1, .int x_117), (0, .ref x)]) rfl ?_
    refine g_lo (is := [1, 0]) (lo2 := [(0, .ref x), (1, .int x_117)]) rfl ?_
    exact l_14 21 I_105 J_106 hUI_105 hF_108 hG_109 x_117 (rx_117) x_116 (rx_116) x_118 (rx_118) x_117 (rx_117) hx_116 hx_118 ex_104.2 hx_117 (by simp only [mAndK, evqx, hs_114, hs_5, ezqx, hs_115, hs_7, emqx, hs_111, hs_9, enqx, hs_112, hs_12, eqqx, hs_113, hs_13, hx_1, hx_2, hx_3, f_103, c_110, hx_116, hx_117, hx_118, f_119, h_120, if_true, if_false, mqM_tp, mqM_size, mqM_limit, mqM_to, mqM_frm, mqM_kind, mqM_number, mqM_sign, mqM_word, MT_.w_tp, MT_.w_size, MT_.w_limit, MT_.w_to, MT_.w_frm, MT_.w_kind, MT_.w_number, MT_.w_sign, MT_.w_word, nqM_rd, nqM_rn, nqM_taped, nqM_mfault, nqM_mplace, nqM_told, nqM_hl, nqM_hd, NR_.w_rd, NR_.w_rn, NR_.w_taped, NR_.w_mfault, NR_.w_mplace, NR_.w_told, NR_.w_hl, NR_.w_hd, qqM_om, QT_.w_om, vqM_nv, NV_.w_nv, zqM_nw, NW_.w_nw]) ⟨by omega, by omega, by omega, by omega⟩ (by have := (rx_118).1; omega)
  · skip
    have r_124 := (⟨(rx_104).1, (eq_rg (h_120) rc_0).2⟩ : Rg 0 0 x_104)
    refine g_iconst C (v := 0) dX12_readAnd_7 (by decide) ?_
    exact g_zret (ty := .boolean) (r := 0) B K rfl (rfl) ⟨hUI_105, hF_108, hG_109, rg_w rc_0 (by decide) (by decide), (by simp only [mAndK, evqx, hs_114, hs_5, ezqx, hs_115, hs_7, emqx, hs_111, hs_9, enqx, hs_112, hs_12, eqqx, hs_113, hs_13, hx_1, hx_2, hx_3, f_103, c_110, hx_116, hx_117, hx_118, f_119, (eq_true h_120), if_true, if_false, mqM_tp, mqM_size, mqM_limit, mqM_to, mqM_frm, mqM_kind, mqM_number, mqM_sign, mqM_word, MT_.w_tp, MT_.w_size, MT_.w_limit, MT_.w_to, MT_.w_frm, MT_.w_kind, MT_.w_number, MT_.w_sign, MT_.w_word, nqM_rd, nqM_rn, nqM_taped, nqM_mfault, nqM_mplace, nqM_told, nqM_hl, nqM_hd, NR_.w_rd, NR_.w_rn, NR_.w_taped, NR_.w_mfault, NR_.w_mplace, NR_.w_told, NR_.w_hl, NR_.w_hd, qqM_om, QT_.w_om, vqM_nv, NV_.w_nv, zqM_nw, NW_.w_nw]), (fun q => absurd rfl q), ex_104.2⟩ dX12_readAnd_8
