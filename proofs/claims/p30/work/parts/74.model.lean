set_option maxRecDepth 100000 in
set_option maxHeartbeats 8000000 in
theorem c_X12_readBracket_3 {l : Launch} {D : va_G} {cy : Nat → ClassId} {L : List Nat} {κ ln : Nat → Nat} {R : Nat → Nat → Option Nat} {I : Nat → Nat → Int32} {J : Nat → Nat → Int64} {ow : Nat → Nat × Nat} (W9 : ∀ a ∈ L, Shp L κ ln R ow a) {x : Nat} (hLx : x ∈ L) (hkx : κ x = 12) (hU : Iw L κ R ow I) (hn : (I x 47).toInt ≤ 2 * (I x 48).toInt) (hwi : I x 49 = 3) : CtI l yX12_readBracket cX12_readBracket 1 (some .boolean) { frames := 26, cells := 0, slots := 0, locals := 559 } D cy L κ ln R I J [.ref x] (fun r I2 J2 => Iw L κ R ow I2 ∧ Fq L κ ow [1205, 1206, 1207, 1208, 1209, 1210, 1211, 1213, 1247, 1248, 1249, 1250, 86600] I I2 ∧ Fq L κ ow [1212] J J2 ∧ Rg 0 1 r ∧ (¬ r = 0 → Sz_ x I I2 1) ∧ (I2 x 49 = 3)) := by
  obtain ⟨x_1, hx_1, rx_1⟩ := ex_getw (I := I) (a := x) (j := 47) (lo := 0) (hi := 60) hU.1 hLx (ro_o hkx (by decide)) rfl
  obtain ⟨x_2, hx_2, rx_2⟩ := ex_getw (I := I) (a := x) (j := 48) (lo := 0) (hi := 20) hU.1 hLx (ro_o hkx (by decide)) rfl
  rw [hx_1, hx_2] at hn
  obtain ⟨x_3, hx_3, rx_3⟩ := ex_getw (I := I) (a := x) (j := 50) (lo := 0) (hi := 59) hU.1 hLx (ro_o hkx (by decide)) rfl
  refine CtI.of (by decide +kernel) (Nat.le_of_ble_eq_true rfl) ?_
  intro p e s m below meth c B K
  have C := B.1
  have hF : Fq L κ ow [1205, 1206, 1207, 1208, 1209, 1210, 1211, 1213, 1247, 1248, 1249, 1250, 86600] I I := fq_rf
  have hG : Fq L κ ow [1212] J J := fq_rf
  refine g_lo (is := [0]) (lo2 := [(0, .ref x)]) rfl ?_
  refine g_aload_n C 0 dX12_readBracket_0 rfl rfl ?_
  refine g_callVI C K (c_X12_readOr_3 W9 hLx hkx   hU  (by rw [hx_1, hx_2]; omega) (hwi)) hLx hkx (by decide) rfl v_12_413 rfl ⟨rfl, rfl⟩ ⟨Nat.le_of_ble_eq_true rfl, Nat.le_of_ble_eq_true rfl⟩ (Nat.le_of_ble_eq_true rfl) ⟨Nat.le_of_ble_eq_true rfl, Nat.le_of_ble_eq_true rfl⟩ dX12_readBracket_1 rfl (st := []) (fun x_4 I_5 J_6 h_7 => ?_)
  obtain ⟨hUI_5, hFI_5, hGJ_6, rx_4, ex_4⟩ := h_7
  have hF_8 := fq_tr hF hFI_5 (by decide)
  have hG_9 := fq_tr hG hGJ_6 (by decide)
  obtain ⟨x_10, hx_10, rx_10⟩ := ex_getw (I := I_5) (a := x) (j := 47) (lo := 0) (hi := 60) hUI_5.1 hLx (ro_o hkx (by decide)) rfl
  obtain ⟨x_11, hx_11, rx_11⟩ := ex_getw (I := I_5) (a := x) (j := 50) (lo := 0) (hi := 59) hUI_5.1 hLx (ro_o hkx (by decide)) rfl
  obtain ⟨x_12, hx_12, rx_12⟩ := ex_getw (I := I_5) (a := x) (j := 48) (lo := 0) (hi := 20) hUI_5.1 hLx (ro_o hkx (by decide)) rfl
  refine g_if_ne C (tgt := 9) dX12_readBracket_4 (by decide) (fun h_13 => ?_) (fun h_13 => ?_)
  · skip
    have n_14 : ¬ x_4 = 0 := h_13
    have r_15 := ne_lo (lo := 1) n_14 rx_4 rc_0 rfl (by decide)
    have f_16 := sz_v hx_1 hx_2 hx_10 hx_12 hx_11 (ex_4.1 n_14)
    refine g_aload_n C 0 dX12_readBracket_9 rfl rfl ?_
    refine g_bipush C (v := 41) dX12_readBracket_10 (by decide) ?_
    obtain ⟨x_17, hx_17, rx_17⟩ := ex_getw (I := I_5) (a := x) (j := 7) (lo := 0) (hi := 4) hUI_5.1 hLx (ro_o hkx (by decide)) rfl
    refine g_callVI C K (c_X12_isSign W9 hLx hkx 41 (rg_w rc_41 (by decide) (by decide)) hUI_5) hLx hkx (by decide) rfl v_12_159 rfl ⟨rfl, rfl⟩ ⟨Nat.le_of_ble_eq_true rfl, Nat.le_of_ble_eq_true rfl⟩ (Nat.le_of_ble_eq_true rfl) ⟨Nat.le_of_ble_eq_true rfl, Nat.le_of_ble_eq_true rfl⟩ dX12_readBracket_12 rfl (st := []) (fun x_18 I_19 J_20 h_21 => ?_)
    obtain ⟨rfl, rfl, rx_18, fx_18, ex_18⟩ := h_21
    have q_22 := hx_17
    refine g_if_ne C (tgt := 24) dX12_readBracket_15 (by decide) (fun h_23 => ?_) (fun h_23 => ?_)
    · skip
      have n_24 : ¬ x_18 = 0 := h_23
      have r_25 := ne_lo (lo := 1) n_24 rx_18 rc_0 rfl (by decide)
      have r_26 := rg_i rx_17 (eq_rg q_22.symm ((ex_18) n_24)) (lo := 4) (hi := 4) (by decide) (by decide)
      refine g_aload_n C 0 dX12_readBracket_24 rfl rfl ?_
      refine g_callVV C K (c_X12_go W9 hLx hkx   hUI_5) hLx hkx (by decide) rfl v_12_156 rfl ⟨rfl, rfl⟩ ⟨Nat.le_of_ble_eq_true rfl, Nat.le_of_ble_eq_true rfl⟩ (Nat.le_of_ble_eq_true rfl) ⟨Nat.le_of_ble_eq_true rfl, Nat.le_of_ble_eq_true rfl⟩ dX12_readBracket_25 rfl (st := []) (fun I_28 J_29 h_30 => ?_)
      obtain ⟨hUI_28, hFI_28, hGJ_29, fx_27, ex_27⟩ := h_30
      have hF_31 := fq_tr hF_8 hFI_28 (by decide)
      have hG_32 := fq_tr hG_9 hGJ_29 (by decide)
      refine g_iconst C (v := 1) dX12_readBracket_28 (by decide) ?_
      exact g_zret (ty := .boolean) (r := 1) B K rfl (rfl) ⟨hUI_28, hF_31, hG_32, rg_w rc_1 (by decide) (by decide), (fun _ => (sz_m hx_1 hx_2 (fq_at hFI_28 hLx hkx (by decide) (by decide) hx_10) (fq_at hFI_28 hLx hkx (by decide) (by decide) hx_12) (fq_at hFI_28 hLx hkx (by decide) (by decide) hx_11) ⟨by omega, by omega, by omega, by omega⟩)), (fq_at hFI_28 hLx hkx (by decide) (by decide) ex_4.2)⟩ dX12_readBracket_29
    · skip
      have r_33 := (⟨(rx_18).1, (eq_rg (h_23) rc_0).2⟩ : Rg 0 0 x_18)
      refine g_aload_n C 0 dX12_readBracket_18 rfl rfl ?_
      refine g_iconst C (v := 1) dX12_readBracket_19 (by decide) ?_
      refine g_callVI C K (c_X12_bad W9 hLx hkx 1 (rg_w rc_1 (by decide) (by decide)) hUI_5) hLx hkx (by decide) rfl v_12_146 rfl ⟨rfl, rfl⟩ ⟨Nat.le_of_ble_eq_true rfl, Nat.le_of_ble_eq_true rfl⟩ (Nat.le_of_ble_eq_true rfl) ⟨Nat.le_of_ble_eq_true rfl, Nat.le_of_ble_eq_true rfl⟩ dX12_readBracket_20 rfl (st := []) (fun x_34 I_35 J_36 h_37 => ?_)
      obtain ⟨hUI_35, hFI_35, hGJ_36, rx_34, fx_34⟩ := h_37
      have hF_38 := fq_tr hF_8 hFI_35 (by decide)
      have hG_39 := fq_tr hG_9 hGJ_36 (by decide)
      exact g_zret (ty := .boolean) (r := x_34) B K rfl (nar_z (rg_w rx_34 (by decide) (by decide))) ⟨hUI_35, hF_38, hG_39, rg_w rx_34 (by decide) (by decide), (fun q => ne_no q rx_34 rc_0), (fq_at hFI_35 hLx hkx (by decide) (by decide) ex_4.2)⟩ dX12_readBracket_23
  · skip
    have r_40 := (⟨(rx_4).1, (eq_rg (h_13) rc_0).2⟩ : Rg 0 0 x_4)
    refine g_iconst C (v := 0) dX12_readBracket_7 (by decide) ?_
    exact g_zret (ty := .boolean) (r := 0) B K rfl (rfl) ⟨hUI_5, hF_8, hG_9, rg_w rc_0 (by decide) (by decide), (fun q => absurd rfl q), ex_4.2⟩ dX12_readBracket_8
set_option maxRecDepth 100000 in
set_option maxHeartbeats 8000000 in
theorem c_X12_readNot_3 {l : Launch} {D : va_G} {cy : Nat → ClassId} {L : List Nat} {κ ln : Nat → Nat} {R : Nat → Nat → Option Nat} {I : Nat → Nat → Int32} {J : Nat → Nat → Int64} {ow : Nat → Nat × Nat} (W9 : ∀ a ∈ L, Shp L κ ln R ow a) {x : Nat} (hLx : x ∈ L) (hkx : κ x = 12) (hU : Iw L κ R ow I) (hn : (I x 47).toInt ≤ 2 * (I x 48).toInt) (hwi : I x 49 = 3) : CtI l yX12_readNot cX12_readNot 1 (some .boolean) { frames := 24, cells := 0, slots := 0, locals := 517 } D cy L κ ln R I J [.ref x] (fun r I2 J2 => Iw L κ R ow I2 ∧ Fq L κ ow [1205, 1206, 1207, 1208, 1209, 1210, 1211, 1213, 1247, 1248, 1249, 1250, 86600] I I2 ∧ Fq L κ ow [1212] J J2 ∧ Rg 0 1 r ∧ (¬ r = 0 → Sz_ x I I2 0) ∧ (I2 x 49 = 3)) := by
  obtain ⟨x_1, hx_1, rx_1⟩ := ex_getw (I := I) (a := x) (j := 47) (lo := 0) (hi := 60) hU.1 hLx (ro_o hkx (by decide)) rfl
  obtain ⟨x_2, hx_2, rx_2⟩ := ex_getw (I := I) (a := x) (j := 48) (lo := 0) (hi := 20) hU.1 hLx (ro_o hkx (by decide)) rfl
  rw [hx_1, hx_2] at hn
  obtain ⟨x_3, hx_3, rx_3⟩ := ex_getw (I := I) (a := x) (j := 50) (lo := 0) (hi := 59) hU.1 hLx (ro_o hkx (by decide)) rfl
  refine CtI.of (by decide +kernel) (Nat.le_of_ble_eq_true rfl) ?_
  intro p e s m below meth c B K
  have C := B.1
  have hF : Fq L κ ow [1205, 1206, 1207, 1208, 1209, 1210, 1211, 1213, 1247, 1248, 1249, 1250, 86600] I I := fq_rf
  have hG : Fq L κ ow [1212] J J := fq_rf
  refine g_lo (is := [0]) (lo2 := [(0, .ref x)]) rfl ?_
  refine g_aload_n C 0 dX12_readNot_0 rfl rfl ?_
  refine g_callVI C K (c_X12_readSaid_3 W9 hLx hkx   hU  (by rw [hx_1, hx_2]; omega) (hwi)) hLx hkx (by decide) rfl v_12_392 rfl ⟨rfl, rfl⟩ ⟨Nat.le_of_ble_eq_true rfl, Nat.le_of_ble_eq_true rfl⟩ (Nat.le_of_ble_eq_true rfl) ⟨Nat.le_of_ble_eq_true rfl, Nat.le_of_ble_eq_true rfl⟩ dX12_readNot_1 rfl (st := []) (fun x_4 I_5 J_6 h_7 => ?_)
  obtain ⟨hUI_5, hFI_5, hGJ_6, rx_4, ex_4⟩ := h_7
  have hF_8 := fq_tr hF hFI_5 (by decide)
  have hG_9 := fq_tr hG hGJ_6 (by decide)
  obtain ⟨x_10, hx_10, rx_10⟩ := ex_getw (I := I_5) (a := x) (j := 47) (lo := 0) (hi := 60) hUI_5.1 hLx (ro_o hkx (by decide)) rfl
  obtain ⟨x_11, hx_11, rx_11⟩ := ex_getw (I := I_5) (a := x) (j := 50) (lo := 0) (hi := 59) hUI_5.1 hLx (ro_o hkx (by decide)) rfl
  obtain ⟨x_12, hx_12, rx_12⟩ := ex_getw (I := I_5) (a := x) (j := 48) (lo := 0) (hi := 20) hUI_5.1 hLx (ro_o hkx (by decide)) rfl
  refine g_if_ne C (tgt := 9) dX12_readNot_4 (by decide) (fun h_13 => ?_) (fun h_13 => ?_)
  · skip
    have n_14 : ¬ x_4 = 0 := h_13
    have r_15 := ne_lo (lo := 1) n_14 rx_4 rc_0 rfl (by decide)
    have f_16 := sz_v hx_1 hx_2 hx_10 hx_12 hx_11 (ex_4.1 n_14)
    refine g_aload_n C 0 dX12_readNot_9 rfl rfl ?_
    refine g_aload_n C 0 dX12_readNot_10 rfl rfl ?_
    refine g_iconst C (v := 1) dX12_readNot_11 (by decide) ?_
    refine g_aload_n C 0 dX12_readNot_12 rfl rfl ?_
    refine g_getI C K hLx hkx f_12_386 (v := x_11) hx_11 dX12_readNot_13 ?_
    refine g_iconst C (v := 0) dX12_readNot_16 (by decide) ?_
    refine g_iconst C (v := 0) dX12_readNot_17 (by decide) ?_
    have r_17 := (show Rg 0 59 x_10 from by have q1 := rx_10; have q2 := rx_12; unfold Rg at *; omega)
    refine g_callVI C K (c_X12_saysOne W9 hLx hkx 1 x_11 0 0 (rg_w rc_1 (by decide) (by decide)) (rx_11) (rg_w rc_0 (by decide) (by decide)) hUI_5  (eq_rg hx_10 (r_17)) (by rw [hx_10]; exact ⟨fun _ => ⟨by have := (rx_11).1; omega, by omega⟩, fun q => absurd q (by decide), fun q => absurd q (by decide)⟩)) hLx hkx (by decide) rfl v_12_389 rfl ⟨rfl, rfl⟩ ⟨Nat.le_of_ble_eq_true rfl, Nat.le_of_ble_eq_true rfl⟩ (Nat.le_of_ble_eq_true rfl) ⟨Nat.le_of_ble_eq_true rfl, Nat.le_of_ble_eq_true rfl⟩ dX12_readNot_18 rfl (st := [.ref x]) (fun x_18 I_19 J_20 h_21 => ?_)
    obtain ⟨hUI_19, hFI_19, hGJ_20, rx_18, ex_18⟩ := h_21
    have hF_22 := fq_tr hF_8 hFI_19 (by decide)
    have hG_23 := fq_tr hG_9 hGJ_20 (by decide)
    obtain ⟨x_24, hx_24, rx_24, tx_24, ux_24⟩ := sa_b (lo := 1) (hi := 60) ex_18 hx_10 r_17 (by decide) (by decide)
    have r_25 := (show Rg 0 59 x_18 from by have q1 := ux_24; have q2 := r_17; unfold Rg at *; omega)
    refine h_putI C K hLx hkx f_12_386 p_12_50 dX12_readNot_21 (fun I_26 hI_26 => ?_)
    have hU_27 := iw_put W9 hUI_19 hI_26 (ro_o hkx (by decide)) (lo := 0) (hi := 59) (rfl) (r_25) rfl
    have hF_28 := fq_puto hF_22 hI_26 hkx (by decide) (by decide)
    refine g_iconst C (v := 1) dX12_readNot_24 (by decide) ?_
    exact g_zret (ty := .boolean) (r := 1) B K rfl (rfl) ⟨hU_27, hF_28, hG_23, rg_w rc_1 (by decide) (by decide), (fun _ => (sz_m hx_1 hx_2 (kp_j hI_26 (by decide) hx_24) (kp_j hI_26 (by decide) (fq_at hFI_19 hLx hkx (by decide) (by decide) hx_12)) (kp_s hI_26) ⟨by have := tx_24; omega, by have := tx_24; omega, by have := tx_24; omega, by have := tx_24; omega⟩)), (kp_j hI_26 (by decide) (fq_at hFI_19 hLx hkx (by decide) (by decide) ex_4.2))⟩ dX12_readNot_25
  · skip
    have r_29 := (⟨(rx_4).1, (eq_rg (h_13) rc_0).2⟩ : Rg 0 0 x_4)
    refine g_iconst C (v := 0) dX12_readNot_7 (by decide) ?_
    exact g_zret (ty := .boolean) (r := 0) B K rfl (rfl) ⟨hUI_5, hF_8, hG_9, rg_w rc_0 (by decide) (by decide), (fun q => absurd rfl q), ex_4.2⟩ dX12_readNot_8
set_option maxRecDepth 100000 in
set_option maxHeartbeats 8000000 in
theorem c_X12_readSaid_2 {l : Launch} {D : va_G} {cy : Nat → ClassId} {L : List Nat} {κ ln : Nat → Nat} {R : Nat → Nat → Option Nat} {I : Nat → Nat → Int32} {J : Nat → Nat → Int64} {ow : Nat → Nat × Nat} (W9 : ∀ a ∈ L, Shp L κ ln R ow a) {x : Nat} (hLx : x ∈ L) (hkx : κ x = 12) (hU : Iw L κ R ow I) (hn : (I x 47).toInt ≤ 2 * (I x 48).toInt) (hwi : I x 49 = 2) : CtI l yX12_readSaid cX12_readSaid 4 (some .boolean) { frames := 27, cells := 0, slots := 0, locals := 579 } D cy L κ ln R I J [.ref x] (fun r I2 J2 => Iw L κ R ow I2 ∧ Fq L κ ow [1205, 1206, 1207, 1208, 1209, 1210, 1211, 1213, 1247, 1248, 1249, 1250, 86600] I I2 ∧ Fq L κ ow [1212] J J2 ∧ Rg 0 1 r ∧ (¬ r = 0 → Sz_ x I I2 1) ∧ (I2 x 49 = 2)) := by
  obtain ⟨x_1, hx_1, rx_1⟩ := ex_getw (I := I) (a := x) (j := 47) (lo := 0) (hi := 60) hU.1 hLx (ro_o hkx (by decide)) rfl
  obtain ⟨x_2, hx_2, rx_2⟩ := ex_getw (I := I) (a := x) (j := 48) (lo := 0) (hi := 20) hU.1 hLx (ro_o hkx (by decide)) rfl
  rw [hx_1, hx_2] at hn
  obtain ⟨x_3, hx_3, rx_3⟩ := ex_getw (I := I) (a := x) (j := 50) (lo := 0) (hi := 59) hU.1 hLx (ro_o hkx (by decide)) rfl
  refine CtI.of (by decide +kernel) (Nat.le_of_ble_eq_true rfl) ?_
  intro p e s m below meth c B K
  have C := B.1
  have hF : Fq L κ ow [1205, 1206, 1207, 1208, 1209, 1210, 1211, 1213, 1247, 1248, 1249, 1250, 86600] I I := fq_rf
  have hG : Fq L κ ow [1212] J J := fq_rf
  refine g_lo (is := [0]) (lo2 := [(0, .ref x)]) rfl ?_
  have j_64 : ∀ (I_4 : Nat → Nat → Int32) (J_5 : Nat → Nat → Int64) (hU_6 : Iw L κ R ow I_4) (hF_7 : Fq L κ ow [1205, 1206, 1207, 1208, 1209, 1210, 1211, 1213, 1247, 1248, 1249, 1250, 86600] I I_4) (hG_8 : Fq L κ ow [1212] J J_5) (v_9 : Int32) (rv_9 : Rg 0 1 v_9) (v_10 : Int32) (rv_10 : Rg 18 28 v_10) (v_11 : Int32) (rv_11 : Rg 0 60 v_11) (v_12 : Int32) (rv_12 : Rg 20 20 v_12) (v_13 : Int32) (rv_13 : Rg 0 59 v_13) (v_14 : Int32) (rv_14 : Rg 0 4 v_14) (q_15 : I_4 x 47 = v_11) (q_16 : I_4 x 48 = v_12) (q_17 : I_4 x 49 = 2) (q_18 : I_4 x 50 = v_13) (q_19 : I_4 x 7 = v_14) (hj_20 : v_11.toInt = x_1.toInt ∧ v_12.toInt = x_2.toInt), WG p l e { frames := 27, cells := 0, slots := 0, locals := 579 } s m ([.ref x] : List Value).toArray below meth c 4 0 0 (MQ below (Qi_ D cy L κ ln R (fun r I2 J2 => Iw L κ R ow I2 ∧ Fq L κ ow [1205, 1206, 1207, 1208, 1209, 1210, 1211, 1213, 1247, 1248, 1249, 1250, 86600] I I2 ∧ Fq L κ ow [1212] J J2 ∧ Rg 0 1 r ∧ (¬ r = 0 → Sz_ x I I2 1) ∧ (I2 x 49 = 2))) ([.ref x] : List Value).toArray s 0 0 (Al_ L)) D cy (Al_ L) s.heap L κ ln R I_4 J_5 64 [(0, .ref x), (1, .int v_9), (2, .int v_10)] [] := by
    intro I_4 J_5 hU_6 hF_7 hG_8 v_9 rv_9 v_10 rv_10 v_11 rv_11 v_12 rv_12 v_13 rv_13 v_14 rv_14 q_15 q_16 q_17 q_18 q_19 hj_20
    refine g_aload_n C 0 dX12_readSaid_64 rfl rfl ?_
    refine g_iconst C (v := 4) dX12_readSaid_65 (by decide) ?_
    refine g_callVI C K (c_X12_bad W9 hLx hkx 4 (rg_w rc_4 (by decide) (by decide)) hU_6) hLx hkx (by decide) rfl v_12_146 rfl ⟨rfl, rfl⟩ ⟨Nat.le_of_ble_eq_true rfl, Nat.le_of_ble_eq_true rfl⟩ (Nat.le_of_ble_eq_true rfl) ⟨Nat.le_of_ble_eq_true rfl, Nat.le_of_ble_eq_true rfl⟩ dX12_readSaid_66 rfl (st := []) (fun x_21 I_22 J_23 h_24 => ?_)
    obtain ⟨hUI_22, hFI_22, hGJ_23, rx_21, fx_21⟩ := h_24
    have hF_25 := fq_tr hF_7 hFI_22 (by decide)
    have hG_26 := fq_tr hG_8 hGJ_23 (by decide)
    exact g_zret (ty := .boolean) (r := x_21) B K rfl (nar_z (rg_w rx_21 (by decide) (by decide))) ⟨hUI_22, hF_25, hG_26, rg_w rx_21 (by decide) (by decide), (fun q => ne_no q rx_21 rc_0), (fq_at hFI_22 hLx hkx (by decide) (by decide) q_17)⟩ dX12_readSaid_69
  have j_46 : ∀ (I_27 : Nat → Nat → Int32) (J_28 : Nat → Nat → Int64) (hU_29 : Iw L κ R ow I_27) (hF_30 : Fq L κ ow [1205, 1206, 1207, 1208, 1209, 1210, 1211, 1213, 1247, 1248, 1249, 1250, 86600] I I_27) (hG_31 : Fq L κ ow [1212] J J_28) (v_32 : Int32) (rv_32 : Rg 0 1 v_32) (v_33 : Int32) (rv_33 : Rg 18 28 v_33) (v_34 : Int32) (rv_34 : Rg 0 60 v_34) (v_35 : Int32) (rv_35 : Rg 0 20 v_35) (v_36 : Int32) (rv_36 : Rg 0 59 v_36) (v_37 : Int32) (rv_37 : Rg 0 4 v_37) (q_38 : I_27 x 47 = v_34) (q_39 : I_27 x 48 = v_35) (q_40 : I_27 x 49 = 2) (q_41 : I_27 x 50 = v_36) (q_42 : I_27 x 7 = v_37) (hj_43 : v_34.toInt = x_1.toInt ∧ v_35.toInt = x_2.toInt), WG p l e { frames := 27, cells := 0, slots := 0, locals := 579 } s m ([.ref x] : List Value).toArray below meth c 4 0 0 (MQ below (Qi_ D cy L κ ln R (fun r I2 J2 => Iw L κ R ow I2 ∧ Fq L κ ow [1205, 1206, 1207, 1208, 1209, 1210, 1211, 1213, 1247, 1248, 1249, 1250, 86600] I I2 ∧ Fq L κ ow [1212] J J2 ∧ Rg 0 1 r ∧ (¬ r = 0 → Sz_ x I I2 1) ∧ (I2 x 49 = 2))) ([.ref x] : List Value).toArray s 0 0 (Al_ L)) D cy (Al_ L) s.heap L κ ln R I_27 J_28 46 [(0, .ref x), (1, .int v_32), (2, .int v_33)] [] := by
    intro I_27 J_28 hU_29 hF_30 hG_31 v_32 rv_32 v_33 rv_33 v_34 rv_34 v_35 rv_35 v_36 rv_36 v_37 rv_37 q_38 q_39 q_40 q_41 q_42 hj_43
    refine g_aload_n C 0 dX12_readSaid_46 rfl rfl ?_
    refine g_getI C K hLx hkx f_12_395 (v := v_35) q_39 dX12_readSaid_47 ?_
    refine g_bipush C (v := 20) dX12_readSaid_50 (by decide) ?_
    refine g_icmp_eq C (tgt := 64) dX12_readSaid_52 (by decide) (fun h_44 => ?_) (fun h_44 => ?_)
    · skip
      have r_45 := (⟨(eq_rg (h_44) rc_20).1, (rv_35).2⟩ : Rg 20 20 v_35)
      refine g_lo (is := [0, 1, 2]) (lo2 := [(0, .ref x), (1, .int v_32), (2, .int v_33)]) rfl ?_
      exact j_64 I_27 J_28 hU_29 hF_30 hG_31 v_32 (rv_32) v_33 (rv_33) v_34 (rv_34) v_35 (r_45) v_36 (rv_36) v_37 (rv_37) q_38 q_39 q_40 q_41 q_42 ⟨by omega, by omega⟩
    · skip
      have n_46 : ¬ v_35 = 20 := h_44
      have r_47 := ne_hi (hi := 19) n_46 rv_35 rc_20 rfl (by decide)
      refine g_aload_n C 0 dX12_readSaid_55 rfl rfl ?_
      refine g_getI C K hLx hkx f_12_398 (v := 2) q_40 dX12_readSaid_56 ?_
      refine g_bipush C (v := 8) dX12_readSaid_59 (by decide) ?_
      refine g_icmp_ne C (tgt := 70) dX12_readSaid_61 (by decide) (fun h_48 => ?_) (fun h_48 => ?_)
      · skip
        refine g_aload_n C 0 dX12_readSaid_70 rfl rfl ?_
        refine g_dup C dX12_readSaid_71 rfl ?_
        refine g_getI C K hLx hkx f_12_395 (v := v_35) q_39 dX12_readSaid_72 ?_
        refine g_iconst C (v := 1) dX12_readSaid_75 (by decide) ?_
        obtain ⟨x_49, hx_49, rx_49, tx_49⟩ := ex_add 1 20 r_47 rc_1 (by decide) (by decide) (by decide) (by decide)
        refine g_iadd C (v := x_49) dX12_readSaid_76 hx_49 ?_
        refine h_putI C K hLx hkx f_12_395 p_12_48 dX12_readSaid_77 (fun I_50 hI_50 => ?_)
        have hU_51 := iw_put W9 hU_29 hI_50 (ro_o hkx (by decide)) (lo := 0) (hi := 20) (rfl) (rg_w rx_49 (by decide) (by decide)) rfl
        have hF_52 := fq_puto hF_30 hI_50 hkx (by decide) (by decide)
        refine g_aload_n C 0 dX12_readSaid_80 rfl rfl ?_
        refine g_dup C dX12_readSaid_81 rfl ?_
        refine g_getI C K hLx hkx f_12_398 (v := 2) (kp_j hI_50 (by decide) q_40) dX12_readSaid_82 ?_
        refine g_iconst C (v := 1) dX12_readSaid_85 (by decide) ?_
        refine g_iadd C (v := 3) dX12_readSaid_86 (by decide) ?_
        refine h_putI C K hLx hkx f_12_398 p_12_49 dX12_readSaid_87 (fun I_53 hI_53 => ?_)
        have hU_54 := iw_put W9 hU_51 hI_53 (ro_o hkx (by decide)) (lo := 0) (hi := 8) (rfl) (rg_w rc_3 (by decide) (by decide)) rfl
        have hF_55 := fq_puto hF_52 hI_53 hkx (by decide) (by decide)
        refine g_aload_n C 0 dX12_readSaid_90 rfl rfl ?_
        refine g_callVV C K (c_X12_go W9 hLx hkx   hU_54) hLx hkx (by decide) rfl v_12_156 rfl ⟨rfl, rfl⟩ ⟨Nat.le_of_ble_eq_true rfl, Nat.le_of_ble_eq_true rfl⟩ (Nat.le_of_ble_eq_true rfl) ⟨Nat.le_of_ble_eq_true rfl, Nat.le_of_ble_eq_true rfl⟩ dX12_readSaid_91 rfl (st := []) (fun I_57 J_58 h_59 => ?_)
        obtain ⟨hUI_57, hFI_57, hGJ_58, fx_56, ex_56⟩ := h_59
        have hF_60 := fq_tr hF_55 hFI_57 (by decide)
        have hG_61 := fq_tr hG_31 hGJ_58 (by decide)
        refine g_iconst C (v := 1) dX12_readSaid_94 (by decide) ?_
        refine g_istore_n C dX12_readSaid_95 rfl (by decide) (lo2 := [(3, .int 1), (0, .ref x), (1, .int v_32), (2, .int v_33)]) rfl ?_
        refine g_iload_n C 2 dX12_readSaid_96 rfl rfl ?_
        refine g_if_eq C (tgt := 108) dX12_readSaid_97 (by decide) (fun h_62 => ?_) (fun h_62 => ?_)
        · skip
          have r_63 := (⟨(rv_32).1, (eq_rg (h_62) rc_0).2⟩ : Rg 0 0 v_32)
          refine g_iload_n C 3 dX12_readSaid_108 rfl rfl ?_
          refine g_bipush C (v := 18) dX12_readSaid_109 (by decide) ?_
          refine g_icmp_ne C (tgt := 122) dX12_readSaid_111 (by decide) (fun h_64 => ?_) (fun h_64 => ?_)
          · skip
            have n_65 : ¬ v_33 = 18 := h_64
            have r_66 := ne_lo (lo := 19) n_65 rv_33 rc_18 rfl (by decide)
            refine g_iload_n C 3 dX12_readSaid_122 rfl rfl ?_
            refine g_bipush C (v := 22) dX12_readSaid_123 (by decide) ?_
            refine g_icmp_ge C (tgt := 146) dX12_readSaid_125 (by decide) (fun h_67 => ?_) (fun h_67 => ?_)
            · skip
              have r_68 := le_r (h_67) rc_22 r_66
              refine g_iload_n C 3 dX12_readSaid_146 rfl rfl ?_
              refine g_bipush C (v := 24) dX12_readSaid_147 (by decide) ?_
              refine g_icmp_ge C (tgt := 160) dX12_readSaid_149 (by decide) (fun h_69 => ?_) (fun h_69 => ?_)
              · skip
                have r_70 := le_r (h_69) rc_24 r_68
                refine g_aload_n C 1 dX12_readSaid_160 rfl rfl ?_
                refine g_iload_n C 3 dX12_readSaid_161 rfl rfl ?_
                refine g_callVI C K (c_X12_readCompare W9 hLx hkx v_33 (r_70) hUI_57  (by rw [(fq_at hFI_57 hLx hkx (by decide) (by decide) (kp_j hI_53 (by decide) (kp_j hI_50 (by decide) q_38))), (fq_at hFI_57 hLx hkx (by decide) (by decide) (kp_j hI_53 (by decide) (kp_s hI_50)))]; have := (ti_k tx_49 rc_1); omega)) hLx hkx (by decide) rfl v_12_410 rfl ⟨rfl, rfl⟩ ⟨Nat.le_of_ble_eq_true rfl, Nat.le_of_ble_eq_true rfl⟩ (Nat.le_of_ble_eq_true rfl) ⟨Nat.le_of_ble_eq_true rfl, Nat.le_of_ble_eq_true rfl⟩ dX12_readSaid_162 rfl (st := []) (fun x_71 I_72 J_73 h_74 => ?_)
                obtain ⟨hUI_72, hFI_72, hGJ_73, rx_71, ex_71⟩ := h_74
                have hF_75 := fq_tr hF_60 hFI_72 (by decide)
                have hG_76 := fq_tr hG_61 hGJ_73 (by decide)
                obtain ⟨x_77, hx_77, rx_77⟩ := ex_getw (I := I_72) (a := x) (j := 47) (lo := 0) (hi := 60) hUI_72.1 hLx (ro_o hkx (by decide)) rfl
                obtain ⟨x_78, hx_78, rx_78⟩ := ex_getw (I := I_72) (a := x) (j := 50) (lo := 0) (hi := 59) hUI_72.1 hLx (ro_o hkx (by decide)) rfl
                refine g_istore_n C dX12_readSaid_165 rfl (by decide) (lo2 := [(3, .int x_71), (0, .ref x), (1, .int v_32), (2, .int v_33)]) rfl ?_
                refine g_aload_n C 1 dX12_readSaid_166 rfl rfl ?_
                refine g_dup C dX12_readSaid_167 rfl ?_
                refine g_getI C K hLx hkx f_12_398 (v := 3) (fq_at hFI_72 hLx hkx (by decide) (by decide) (fq_at hFI_57 hLx hkx (by decide) (by decide) (kp_s hI_53))) dX12_readSaid_168 ?_
                refine g_iconst C (v := 1) dX12_readSaid_171 (by decide) ?_
                refine g_isub C (v := 2) dX12_readSaid_172 (by decide) ?_
                refine h_putI C K hLx hkx f_12_398 p_12_49 dX12_readSaid_173 (fun I_79 hI_79 => ?_)
                have hU_80 := iw_put W9 hUI_72 hI_79 (ro_o hkx (by decide)) (lo := 0) (hi := 8) (rfl) (rg_w rc_2 (by decide) (by decide)) rfl
                have hF_81 := fq_puto hF_75 hI_79 hkx (by decide) (by decide)
                refine g_iload_n C 0 dX12_readSaid_176 rfl rfl ?_
                exact g_zret (ty := .boolean) (r := x_71) B K rfl (nar_z (rx_71)) ⟨hU_80, hF_81, hG_76, rx_71, (fun hq => by have n_82 : ¬ x_71 = 0 := hq; have r_83 := ne_lo (lo := 1) n_82 rx_71 rc_0 rfl (by decide); have f_84 := sl_v (fq_at hFI_57 hLx hkx (by decide) (by decide) (kp_j hI_53 (by decide) (kp_j hI_50 (by decide) q_38))) hx_77 hx_78 (ex_71 n_82); exact (sz_m hx_1 hx_2 (kp_j hI_79 (by decide) hx_77) (kp_j hI_79 (by decide) (fq_at hFI_72 hLx hkx (by decide) (by decide) (fq_at hFI_57 hLx hkx (by decide) (by decide) (kp_j hI_53 (by decide) (kp_s hI_50))))) (kp_j hI_79 (by decide) hx_78) ⟨by have := (ti_k tx_49 rc_1); omega, by have := (ti_k tx_49 rc_1); omega, by have := (ti_k tx_49 rc_1); omega, by have := (ti_k tx_49 rc_1); omega⟩)), (kp_s hI_79)⟩ dX12_readSaid_177
              · skip
                have r_85 := lt_l (hi := 23) (nle h_69) r_68 rc_24 (by decide)
                refine g_aload_n C 1 dX12_readSaid_152 rfl rfl ?_
                refine g_iload_n C 3 dX12_readSaid_153 rfl rfl ?_
                refine g_callVI C K (c_X12_readOf W9 hLx hkx v_33 (r_85) hUI_57  (by rw [(fq_at hFI_57 hLx hkx (by decide) (by decide) (kp_j hI_53 (by decide) (kp_j hI_50 (by decide) q_38))), (fq_at hFI_57 hLx hkx (by decide) (by decide) (kp_j hI_53 (by decide) (kp_s hI_50)))]; have := (ti_k tx_49 rc_1); omega)) hLx hkx (by decide) rfl v_12_407 rfl ⟨rfl, rfl⟩ ⟨Nat.le_of_ble_eq_true rfl, Nat.le_of_ble_eq_true rfl⟩ (Nat.le_of_ble_eq_true rfl) ⟨Nat.le_of_ble_eq_true rfl, Nat.le_of_ble_eq_true rfl⟩ dX12_readSaid_154 rfl (st := []) (fun x_86 I_87 J_88 h_89 => ?_)
                obtain ⟨hUI_87, hFI_87, hGJ_88, rx_86, ex_86⟩ := h_89
                have hF_90 := fq_tr hF_60 hFI_87 (by decide)
                have hG_91 := fq_tr hG_61 hGJ_88 (by decide)
                obtain ⟨x_92, hx_92, rx_92⟩ := ex_getw (I := I_87) (a := x) (j := 47) (lo := 0) (hi := 60) hUI_87.1 hLx (ro_o hkx (by decide)) rfl
                obtain ⟨x_93, hx_93, rx_93⟩ := ex_getw (I := I_87) (a := x) (j := 50) (lo := 0) (hi := 59) hUI_87.1 hLx (ro_o hkx (by decide)) rfl
                refine g_goto C (tgt := 165) dX12_readSaid_157 (by decide) ?_
                refine g_istore_n C dX12_readSaid_165 rfl (by decide) (lo2 := [(3, .int x_86), (0, .ref x), (1, .int v_32), (2, .int v_33)]) rfl ?_
                refine g_aload_n C 1 dX12_readSaid_166 rfl rfl ?_
                refine g_dup C dX12_readSaid_167 rfl ?_
                refine g_getI C K hLx hkx f_12_398 (v := 3) (fq_at hFI_87 hLx hkx (by decide) (by decide) (fq_at hFI_57 hLx hkx (by decide) (by decide) (kp_s hI_53))) dX12_readSaid_168 ?_
                refine g_iconst C (v := 1) dX12_readSaid_171 (by decide) ?_
                refine g_isub C (v := 2) dX12_readSaid_172 (by decide) ?_
                refine h_putI C K hLx hkx f_12_398 p_12_49 dX12_readSaid_173 (fun I_94 hI_94 => ?_)
                have hU_95 := iw_put W9 hUI_87 hI_94 (ro_o hkx (by decide)) (lo := 0) (hi := 8) (rfl) (rg_w rc_2 (by decide) (by decide)) rfl
                have hF_96 := fq_puto hF_90 hI_94 hkx (by decide) (by decide)
                refine g_iload_n C 0 dX12_readSaid_176 rfl rfl ?_
                exact g_zret (ty := .boolean) (r := x_86) B K rfl (nar_z (rx_86)) ⟨hU_95, hF_96, hG_91, rx_86, (fun hq => by have n_97 : ¬ x_86 = 0 := hq; have r_98 := ne_lo (lo := 1) n_97 rx_86 rc_0 rfl (by decide); have f_99 := sl_v (fq_at hFI_57 hLx hkx (by decide) (by decide) (kp_j hI_53 (by decide) (kp_j hI_50 (by decide) q_38))) hx_92 hx_93 (ex_86 n_97); exact (sz_m hx_1 hx_2 (kp_j hI_94 (by decide) hx_92) (kp_j hI_94 (by decide) (fq_at hFI_87 hLx hkx (by decide) (by decide) (fq_at hFI_57 hLx hkx (by decide) (by decide) (kp_j hI_53 (by decide) (kp_s hI_50))))) (kp_j hI_94 (by decide) hx_93) ⟨by have := (ti_k tx_49 rc_1); omega, by have := (ti_k tx_49 rc_1); omega, by have := (ti_k tx_49 rc_1); omega, by have := (ti_k tx_49 rc_1); omega⟩)), (kp_s hI_94)⟩ dX12_readSaid_177
            · skip
              have r_100 := lt_l (hi := 21) (nle h_67) r_66 rc_22 (by decide)
              refine g_aload_n C 1 dX12_readSaid_128 rfl rfl ?_
              refine g_aload_n C 1 dX12_readSaid_129 rfl rfl ?_
              refine g_bipush C (v := 50) dX12_readSaid_130 (by decide) ?_
              refine g_iload_n C 3 dX12_readSaid_132 rfl rfl ?_
              obtain ⟨x_101, hx_101, rx_101, tx_101⟩ := ex_add 69 71 rc_50 r_100 (by decide) (by decide) (by decide) (by decide)
              refine g_iadd C (v := x_101) dX12_readSaid_133 hx_101 ?_
              refine g_iconst C (v := 0) dX12_readSaid_134 (by decide) ?_
              refine g_iconst C (v := 0) dX12_readSaid_135 (by decide) ?_
              refine g_iconst C (v := 0) dX12_readSaid_136 (by decide) ?_
              have r_102 := (show Rg 0 59 v_34 from by have q1 := rv_34; have q2 := rx_49; unfold Rg at *; omega)
              refine g_callVI C K (c_X12_saysOne W9 hLx hkx x_101 0 0 0 (rg_w rx_101 (by decide) (by decide)) (rg_w rc_0 (by decide) (by decide)) (rg_w rc_0 (by decide) (by decide)) hUI_57  (eq_rg (fq_at hFI_57 hLx hkx (by decide) (by decide) (kp_j hI_53 (by decide) (kp_j hI_50 (by decide) q_38))) (r_102)) (by rw [(fq_at hFI_57 hLx hkx (by decide) (by decide) (kp_j hI_53 (by decide) (kp_j hI_50 (by decide) q_38)))]; exact ⟨fun q => by rcases q with q | q | q; exact absurd q (rg_nek rx_101 rc_1 (by decide)); exact absurd q (rg_nek rx_101 rc_2 (by decide)); exact absurd q (rg_nek rx_101 rc_3 (by decide)), fun q => by rcases q with q | q; exact absurd q (rg_nek rx_101 rc_2 (by decide)); exact absurd q (rg_nek rx_101 rc_3 (by decide)), fun q => absurd q (rg_nek rx_101 rc_73 (by decide))⟩)) hLx hkx (by decide) rfl v_12_389 rfl ⟨rfl, rfl⟩ ⟨Nat.le_of_ble_eq_true rfl, Nat.le_of_ble_eq_true rfl⟩ (Nat.le_of_ble_eq_true rfl) ⟨Nat.le_of_ble_eq_true rfl, Nat.le_of_ble_eq_true rfl⟩ dX12_readSaid_137 rfl (st := [.ref x]) (fun x_103 I_104 J_105 h_106 => ?_)
              obtain ⟨hUI_104, hFI_104, hGJ_105, rx_103, ex_103⟩ := h_106
              have hF_107 := fq_tr hF_60 hFI_104 (by decide)
              have hG_108 := fq_tr hG_61 hGJ_105 (by decide)
              obtain ⟨x_109, hx_109, rx_109, tx_109, ux_109⟩ := sa_b (lo := 1) (hi := 60) ex_103 (fq_at hFI_57 hLx hkx (by decide) (by decide) (kp_j hI_53 (by decide) (kp_j hI_50 (by decide) q_38))) r_102 (by decide) (by decide)
              have r_110 := (show Rg 0 59 x_103 from by have q1 := ux_109; have q2 := r_102; unfold Rg at *; omega)
              refine h_putI C K hLx hkx f_12_386 p_12_50 dX12_readSaid_140 (fun I_111 hI_111 => ?_)
              have hU_112 := iw_put W9 hUI_104 hI_111 (ro_o hkx (by decide)) (lo := 0) (hi := 59) (rfl) (r_110) rfl
              have hF_113 := fq_puto hF_107 hI_111 hkx (by decide) (by decide)
              refine g_goto C (tgt := 166) dX12_readSaid_143 (by decide) ?_
              refine g_aload_n C 1 dX12_readSaid_166 rfl rfl ?_
              refine g_dup C dX12_readSaid_167 rfl ?_
              refine g_getI C K hLx hkx f_12_398 (v := 3) (kp_j hI_111 (by decide) (fq_at hFI_104 hLx hkx (by decide) (by decide) (fq_at hFI_57 hLx hkx (by decide) (by decide) (kp_s hI_53)))) dX12_readSaid_168 ?_
              refine g_iconst C (v := 1) dX12_readSaid_171 (by decide) ?_
              refine g_isub C (v := 2) dX12_readSaid_172 (by decide) ?_
              refine h_putI C K hLx hkx f_12_398 p_12_49 dX12_readSaid_173 (fun I_114 hI_114 => ?_)
              have hU_115 := iw_put W9 hU_112 hI_114 (ro_o hkx (by decide)) (lo := 0) (hi := 8) (rfl) (rg_w rc_2 (by decide) (by decide)) rfl
              have hF_116 := fq_puto hF_113 hI_114 hkx (by decide) (by decide)
              refine g_iload_n C 0 dX12_readSaid_176 rfl rfl ?_
              exact g_zret (ty := .boolean) (r := 1) B K rfl (rfl) ⟨hU_115, hF_116, hG_108, rg_w rc_1 (by decide) (by decide), (fun _ => (sz_m hx_1 hx_2 (kp_j hI_114 (by decide) (kp_j hI_111 (by decide) hx_109)) (kp_j hI_114 (by decide) (kp_j hI_111 (by decide) (fq_at hFI_104 hLx hkx (by decide) (by decide) (fq_at hFI_57 hLx hkx (by decide) (by decide) (kp_j hI_53 (by decide) (kp_s hI_50)))))) (kp_j hI_114 (by decide) (kp_s hI_111)) ⟨by have := tx_109; have := (ti_k tx_49 rc_1); omega, by have := tx_109; have := (ti_k tx_49 rc_1); omega, by have := tx_109; have := (ti_k tx_49 rc_1); omega, by have := tx_109; have := (ti_k tx_49 rc_1); omega⟩)), (kp_s hI_114)⟩ dX12_readSaid_177
          · skip
            have r_117 := (⟨(rv_33).1, (eq_rg (h_64) rc_18).2⟩ : Rg 18 18 v_33)
            refine g_aload_n C 1 dX12_readSaid_114 rfl rfl ?_
            refine g_callVI C K (c_X12_readNot_3 W9 hLx hkx   hUI_57  (by rw [(fq_at hFI_57 hLx hkx (by decide) (by decide) (kp_j hI_53 (by decide) (kp_j hI_50 (by decide) q_38))), (fq_at hFI_57 hLx hkx (by decide) (by decide) (kp_j hI_53 (by decide) (kp_s hI_50)))]; have := (ti_k tx_49 rc_1); omega) ((fq_at hFI_57 hLx hkx (by decide) (by decide) (kp_s hI_53)))) hLx hkx (by decide) rfl v_12_404 rfl ⟨rfl, rfl⟩ ⟨Nat.le_of_ble_eq_true rfl, Nat.le_of_ble_eq_true rfl⟩ (Nat.le_of_ble_eq_true rfl) ⟨Nat.le_of_ble_eq_true rfl, Nat.le_of_ble_eq_true rfl⟩ dX12_readSaid_115 rfl (st := []) (fun x_118 I_119 J_120 h_121 => ?_)
            obtain ⟨hUI_119, hFI_119, hGJ_120, rx_118, ex_118⟩ := h_121
            have hF_122 := fq_tr hF_60 hFI_119 (by decide)
            have hG_123 := fq_tr hG_61 hGJ_120 (by decide)
            obtain ⟨x_124, hx_124, rx_124⟩ := ex_getw (I := I_119) (a := x) (j := 47) (lo := 0) (hi := 60) hUI_119.1 hLx (ro_o hkx (by decide)) rfl
            obtain ⟨x_125, hx_125, rx_125⟩ := ex_getw (I := I_119) (a := x) (j := 50) (lo := 0) (hi := 59) hUI_119.1 hLx (ro_o hkx (by decide)) rfl
            obtain ⟨x_126, hx_126, rx_126⟩ := ex_getw (I := I_119) (a := x) (j := 48) (lo := 0) (hi := 20) hUI_119.1 hLx (ro_o hkx (by decide)) rfl
            refine g_istore_n C dX12_readSaid_118 rfl (by decide) (lo2 := [(3, .int x_118), (0, .ref x), (1, .int v_32), (2, .int v_33)]) rfl ?_
            refine g_goto C (tgt := 166) dX12_readSaid_119 (by decide) ?_
            refine g_aload_n C 1 dX12_readSaid_166 rfl rfl ?_
            refine g_dup C dX12_readSaid_167 rfl ?_
            refine g_getI C K hLx hkx f_12_398 (v := 3) ex_118.2 dX12_readSaid_168 ?_
            refine g_iconst C (v := 1) dX12_readSaid_171 (by decide) ?_
            refine g_isub C (v := 2) dX12_readSaid_172 (by decide) ?_
            refine h_putI C K hLx hkx f_12_398 p_12_49 dX12_readSaid_173 (fun I_127 hI_127 => ?_)
            have hU_128 := iw_put W9 hUI_119 hI_127 (ro_o hkx (by decide)) (lo := 0) (hi := 8) (rfl) (rg_w rc_2 (by decide) (by decide)) rfl
            have hF_129 := fq_puto hF_122 hI_127 hkx (by decide) (by decide)
            refine g_iload_n C 0 dX12_readSaid_176 rfl rfl ?_
            exact g_zret (ty := .boolean) (r := x_118) B K rfl (nar_z (rx_118)) ⟨hU_128, hF_129, hG_123, rx_118, (fun hq => by have n_130 : ¬ x_118 = 0 := hq; have r_131 := ne_lo (lo := 1) n_130 rx_118 rc_0 rfl (by decide); have f_132 := sz_v (fq_at hFI_57 hLx hkx (by decide) (by decide) (kp_j hI_53 (by decide) (kp_j hI_50 (by decide) q_38))) (fq_at hFI_57 hLx hkx (by decide) (by decide) (kp_j hI_53 (by decide) (kp_s hI_50))) hx_124 hx_126 hx_125 (ex_118.1 n_130); have f_133 := (ti_k tx_49 rc_1); exact (sz_m hx_1 hx_2 (kp_j hI_127 (by decide) hx_124) (kp_j hI_127 (by decide) hx_126) (kp_j hI_127 (by decide) hx_125) ⟨by omega, by omega, by omega, by omega⟩)), (kp_s hI_127)⟩ dX12_readSaid_177
        · skip
          have n_134 : ¬ v_32 = 0 := h_62
          have r_135 := ne_lo (lo := 1) n_134 rv_32 rc_0 rfl (by decide)
          refine g_aload_n C 1 dX12_readSaid_100 rfl rfl ?_
          refine g_callVI C K (c_X12_readBracket_3 W9 hLx hkx   hUI_57  (by rw [(fq_at hFI_57 hLx hkx (by decide) (by decide) (kp_j hI_53 (by decide) (kp_j hI_50 (by decide) q_38))), (fq_at hFI_57 hLx hkx (by decide) (by decide) (kp_j hI_53 (by decide) (kp_s hI_50)))]; have := (ti_k tx_49 rc_1); omega) ((fq_at hFI_57 hLx hkx (by decide) (by decide) (kp_s hI_53)))) hLx hkx (by decide) rfl v_12_401 rfl ⟨rfl, rfl⟩ ⟨Nat.le_of_ble_eq_true rfl, Nat.le_of_ble_eq_true rfl⟩ (Nat.le_of_ble_eq_true rfl) ⟨Nat.le_of_ble_eq_true rfl, Nat.le_of_ble_eq_true rfl⟩ dX12_readSaid_101 rfl (st := []) (fun x_136 I_137 J_138 h_139 => ?_)
          obtain ⟨hUI_137, hFI_137, hGJ_138, rx_136, ex_136⟩ := h_139
          have hF_140 := fq_tr hF_60 hFI_137 (by decide)
          have hG_141 := fq_tr hG_61 hGJ_138 (by decide)
          obtain ⟨x_142, hx_142, rx_142⟩ := ex_getw (I := I_137) (a := x) (j := 47) (lo := 0) (hi := 60) hUI_137.1 hLx (ro_o hkx (by decide)) rfl
          obtain ⟨x_143, hx_143, rx_143⟩ := ex_getw (I := I_137) (a := x) (j := 50) (lo := 0) (hi := 59) hUI_137.1 hLx (ro_o hkx (by decide)) rfl
          obtain ⟨x_144, hx_144, rx_144⟩ := ex_getw (I := I_137) (a := x) (j := 48) (lo := 0) (hi := 20) hUI_137.1 hLx (ro_o hkx (by decide)) rfl
          refine g_istore_n C dX12_readSaid_104 rfl (by decide) (lo2 := [(3, .int x_136), (0, .ref x), (1, .int v_32), (2, .int v_33)]) rfl ?_
          refine g_goto C (tgt := 166) dX12_readSaid_105 (by decide) ?_
          refine g_aload_n C 1 dX12_readSaid_166 rfl rfl ?_
          refine g_dup C dX12_readSaid_167 rfl ?_
          refine g_getI C K hLx hkx f_12_398 (v := 3) ex_136.2 dX12_readSaid_168 ?_
          refine g_iconst C (v := 1) dX12_readSaid_171 (by decide) ?_
          refine g_isub C (v := 2) dX12_readSaid_172 (by decide) ?_
          refine h_putI C K hLx hkx f_12_398 p_12_49 dX12_readSaid_173 (fun I_145 hI_145 => ?_)
          have hU_146 := iw_put W9 hUI_137 hI_145 (ro_o hkx (by decide)) (lo := 0) (hi := 8) (rfl) (rg_w rc_2 (by decide) (by decide)) rfl
          have hF_147 := fq_puto hF_140 hI_145 hkx (by decide) (by decide)
          refine g_iload_n C 0 dX12_readSaid_176 rfl rfl ?_
          exact g_zret (ty := .boolean) (r := x_136) B K rfl (nar_z (rx_136)) ⟨hU_146, hF_147, hG_141, rx_136, (fun hq => by have n_148 : ¬ x_136 = 0 := hq; have r_149 := ne_lo (lo := 1) n_148 rx_136 rc_0 rfl (by decide); have f_150 := sz_v (fq_at hFI_57 hLx hkx (by decide) (by decide) (kp_j hI_53 (by decide) (kp_j hI_50 (by decide) q_38))) (fq_at hFI_57 hLx hkx (by decide) (by decide) (kp_j hI_53 (by decide) (kp_s hI_50))) hx_142 hx_144 hx_143 (ex_136.1 n_148); have f_151 := (ti_k tx_49 rc_1); exact (sz_m hx_1 hx_2 (kp_j hI_145 (by decide) hx_142) (kp_j hI_145 (by decide) hx_144) (kp_j hI_145 (by decide) hx_143) ⟨by omega, by omega, by omega, by omega⟩)), (kp_s hI_145)⟩ dX12_readSaid_177
      · skip
        exact absurd (h_48) (by decide)
  have j_30 : ∀ (I_152 : Nat → Nat → Int32) (J_153 : Nat → Nat → Int64) (hU_154 : Iw L κ R ow I_152) (hF_155 : Fq L κ ow [1205, 1206, 1207, 1208, 1209, 1210, 1211, 1213, 1247, 1248, 1249, 1250, 86600] I I_152) (hG_156 : Fq L κ ow [1212] J J_153) (v_157 : Int32) (rv_157 : Rg 0 1 v_157) (v_158 : Int32) (rv_158 : Rg 18 28 v_158) (v_159 : Int32) (rv_159 : Rg 0 60 v_159) (v_160 : Int32) (rv_160 : Rg 0 20 v_160) (v_161 : Int32) (rv_161 : Rg 0 59 v_161) (v_162 : Int32) (rv_162 : Rg 0 4 v_162) (q_163 : I_152 x 47 = v_159) (q_164 : I_152 x 48 = v_160) (q_165 : I_152 x 49 = 2) (q_166 : I_152 x 50 = v_161) (q_167 : I_152 x 7 = v_162) (hj_168 : v_159.toInt = x_1.toInt ∧ v_160.toInt = x_2.toInt), WG p l e { frames := 27, cells := 0, slots := 0, locals := 579 } s m ([.ref x] : List Value).toArray below meth c 4 0 0 (MQ below (Qi_ D cy L κ ln R (fun r I2 J2 => Iw L κ R ow I2 ∧ Fq L κ ow [1205, 1206, 1207, 1208, 1209, 1210, 1211, 1213, 1247, 1248, 1249, 1250, 86600] I I2 ∧ Fq L κ ow [1212] J J2 ∧ Rg 0 1 r ∧ (¬ r = 0 → Sz_ x I I2 1) ∧ (I2 x 49 = 2))) ([.ref x] : List Value).toArray s 0 0 (Al_ L)) D cy (Al_ L) s.heap L κ ln R I_152 J_153 30 [(0, .ref x), (1, .int v_157), (2, .int v_158)] [] := by
    intro I_152 J_153 hU_154 hF_155 hG_156 v_157 rv_157 v_158 rv_158 v_159 rv_159 v_160 rv_160 v_161 rv_161 v_162 rv_162 q_163 q_164 q_165 q_166 q_167 hj_168
    refine g_iload_n C 1 dX12_readSaid_30 rfl rfl ?_
    refine g_if_ne C (tgt := 46) dX12_readSaid_31 (by decide) (fun h_169 => ?_) (fun h_169 => ?_)
    · skip
      have n_170 : ¬ v_157 = 0 := h_169
      have r_171 := ne_lo (lo := 1) n_170 rv_157 rc_0 rfl (by decide)
      refine g_lo (is := [0, 1, 2]) (lo2 := [(0, .ref x), (1, .int v_157), (2, .int v_158)]) rfl ?_
      exact j_46 I_152 J_153 hU_154 hF_155 hG_156 v_157 (rg_w r_171 (by decide) (by decide)) v_158 (rv_158) v_159 (rv_159) v_160 (rv_160) v_161 (rv_161) v_162 (rv_162) q_163 q_164 q_165 q_166 q_167 ⟨by omega, by omega⟩
    · skip
      have r_172 := (⟨(rv_157).1, (eq_rg (h_169) rc_0).2⟩ : Rg 0 0 v_157)
      refine g_iload_n C 2 dX12_readSaid_34 rfl rfl ?_
      refine g_bipush C (v := 27) dX12_readSaid_35 (by decide) ?_
      refine g_icmp_le C (tgt := 46) dX12_readSaid_37 (by decide) (fun h_173 => ?_) (fun h_173 => ?_)
      · skip
        have r_174 := le_l (h_173) rv_158 rc_27
        refine g_lo (is := [0, 1, 2]) (lo2 := [(0, .ref x), (1, .int v_157), (2, .int v_158)]) rfl ?_
        exact j_46 I_152 J_153 hU_154 hF_155 hG_156 v_157 (rg_w r_172 (by decide) (by decide)) v_158 (rg_w r_174 (by decide) (by decide)) v_159 (rv_159) v_160 (rv_160) v_161 (rv_161) v_162 (rv_162) q_163 q_164 q_165 q_166 q_167 ⟨by omega, by omega⟩
      · skip
        have r_175 := lt_r (lo := 28) (nle h_173) rc_27 rv_158 (by decide)
        refine g_aload_n C 0 dX12_readSaid_40 rfl rfl ?_
        refine g_iconst C (v := 1) dX12_readSaid_41 (by decide) ?_
        refine g_callVI C K (c_X12_bad W9 hLx hkx 1 (rg_w rc_1 (by decide) (by decide)) hU_154) hLx hkx (by decide) rfl v_12_146 rfl ⟨rfl, rfl⟩ ⟨Nat.le_of_ble_eq_true rfl, Nat.le_of_ble_eq_true rfl⟩ (Nat.le_of_ble_eq_true rfl) ⟨Nat.le_of_ble_eq_true rfl, Nat.le_of_ble_eq_true rfl⟩ dX12_readSaid_42 rfl (st := []) (fun x_176 I_177 J_178 h_179 => ?_)
        obtain ⟨hUI_177, hFI_177, hGJ_178, rx_176, fx_176⟩ := h_179
        have hF_180 := fq_tr hF_155 hFI_177 (by decide)
        have hG_181 := fq_tr hG_156 hGJ_178 (by decide)
        exact g_zret (ty := .boolean) (r := x_176) B K rfl (nar_z (rg_w rx_176 (by decide) (by decide))) ⟨hUI_177, hF_180, hG_181, rg_w rx_176 (by decide) (by decide), (fun q => ne_no q rx_176 rc_0), (fq_at hFI_177 hLx hkx (by decide) (by decide) q_165)⟩ dX12_readSaid_45
  have l_10 : ∀ (n_10 : Nat) (I_182 : Nat → Nat → Int32) (J_183 : Nat → Nat → Int64) (hU_184 : Iw L κ R ow I_182) (hF_185 : Fq L κ ow [1205, 1206, 1207, 1208, 1209, 1210, 1211, 1213, 1247, 1248, 1249, 1250, 86600] I I_182) (hG_186 : Fq L κ ow [1212] J J_183) (v_187 : Int32) (rv_187 : Rg 0 1 v_187) (v_188 : Int32) (rv_188 : Rg 18 28 v_188) (v_189 : Int32) (rv_189 : Rg 0 60 v_189) (v_190 : Int32) (rv_190 : Rg 0 20 v_190) (v_191 : Int32) (rv_191 : Rg 0 59 v_191) (v_192 : Int32) (rv_192 : Rg 0 4 v_192) (q_193 : I_182 x 47 = v_189) (q_194 : I_182 x 48 = v_190) (q_195 : I_182 x 49 = 2) (q_196 : I_182 x 50 = v_191) (q_197 : I_182 x 7 = v_192) (hj_198 : v_189.toInt = x_1.toInt ∧ v_190.toInt = x_2.toInt) (hm_199 : 28 < (v_188 : Int32).toInt + (n_10 : Int)), WG p l e { frames := 27, cells := 0, slots := 0, locals := 579 } s m ([.ref x] : List Value).toArray below meth c 4 0 0 (MQ below (Qi_ D cy L κ ln R (fun r I2 J2 => Iw L κ R ow I2 ∧ Fq L κ ow [1205, 1206, 1207, 1208, 1209, 1210, 1211, 1213, 1247, 1248, 1249, 1250, 86600] I I2 ∧ Fq L κ ow [1212] J J2 ∧ Rg 0 1 r ∧ (¬ r = 0 → Sz_ x I I2 1) ∧ (I2 x 49 = 2))) ([.ref x] : List Value).toArray s 0 0 (Al_ L)) D cy (Al_ L) s.heap L κ ln R I_182 J_183 10 [(0, .ref x), (1, .int v_187), (2, .int v_188)] [] := by
    intro n_10
    induction n_10 with
    | zero =>
      intro I_182 J_183 hU_184 hF_185 hG_186 v_187 rv_187 v_188 rv_188 v_189 rv_189 v_190 rv_190 v_191 rv_191 v_192 rv_192 q_193 q_194 q_195 q_196 q_197 hj_198 hm_199
      exact ms_0 rv_188 hm_199
    | succ n_10 ih_10 =>
      intro I_182 J_183 hU_184 hF_185 hG_186 v_187 rv_187 v_188 rv_188 v_189 rv_189 v_190 rv_190 v_191 rv_191 v_192 rv_192 q_193 q_194 q_195 q_196 q_197 hj_198 hm_199
      refine g_iload_n C 2 dX12_readSaid_10 rfl rfl ?_
      refine g_bipush C (v := 27) dX12_readSaid_11 (by decide) ?_
      refine g_icmp_gt C (tgt := 30) dX12_readSaid_13 (by decide) (fun h_200 => ?_) (fun h_200 => ?_)
      · skip
        have r_201 := lt_r (lo := 28) (h_200) rc_27 rv_188 (by decide)
        refine g_lo (is := [0, 1, 2]) (lo2 := [(0, .ref x), (1, .int v_187), (2, .int v_188)]) rfl ?_
        exact j_30 I_182 J_183 hU_184 hF_185 hG_186 v_187 (rv_187) v_188 (rg_w r_201 (by decide) (by decide)) v_189 (rv_189) v_190 (rv_190) v_191 (rv_191) v_192 (rv_192) q_193 q_194 q_195 q_196 q_197 ⟨by omega, by omega⟩
      · skip
        have r_202 := le_l (nlt h_200) rv_188 rc_27
        refine g_aload_n C 0 dX12_readSaid_16 rfl rfl ?_
        refine g_iload_n C 2 dX12_readSaid_17 rfl rfl ?_
        refine g_callVI C K (c_X12_isWord W9 hLx hkx v_188 (rg_w r_202 (by decide) (by decide)) hU_184) hLx hkx (by decide) rfl v_12_191 rfl ⟨rfl, rfl⟩ ⟨Nat.le_of_ble_eq_true rfl, Nat.le_of_ble_eq_true rfl⟩ (Nat.le_of_ble_eq_true rfl) ⟨Nat.le_of_ble_eq_true rfl, Nat.le_of_ble_eq_true rfl⟩ dX12_readSaid_18 rfl (st := []) (fun x_203 I_204 J_205 h_206 => ?_)
        obtain ⟨rfl, rfl, rx_203, fx_203⟩ := h_206
        refine g_if_ne C (tgt := 30) dX12_readSaid_21 (by decide) (fun h_207 => ?_) (fun h_207 => ?_)
        · skip
          have n_208 : ¬ x_203 = 0 := h_207
          have r_209 := ne_lo (lo := 1) n_208 rx_203 rc_0 rfl (by decide)
          refine g_lo (is := [0, 1, 2]) (lo2 := [(0, .ref x), (1, .int v_187), (2, .int v_188)]) rfl ?_
          exact j_30 I_182 J_183 hU_184 hF_185 hG_186 v_187 (rv_187) v_188 (rg_w r_202 (by decide) (by decide)) v_189 (rv_189) v_190 (rv_190) v_191 (rv_191) v_192 (rv_192) q_193 q_194 q_195 q_196 q_197 ⟨by omega, by omega⟩
        · skip
          have r_210 := (⟨(rx_203).1, (eq_rg (h_207) rc_0).2⟩ : Rg 0 0 x_203)
          obtain ⟨x_211, hx_211, rx_211, tx_211⟩ := ex_add (y := 1) 19 28 r_202 rc_1 (by decide) (by decide) (by decide) (by decide)
          refine g_iinc C dX12_readSaid_24 (k := 2) (v := x_211) rfl hx_211 (by decide) (lo2 := [(2, .int x_211), (0, .ref x), (1, .int v_187)]) rfl ?_
          refine g_goto C (tgt := 10) dX12_readSaid_27 (by decide) ?_
          refine g_lo (is := [1, 2, 0]) (lo2 := [(0, .ref x), (1, .int v_187), (2, .int x_211)]) rfl ?_
          exact ih_10 I_182 J_183 hU_184 hF_185 hG_186 v_187 (rv_187) x_211 (rg_w rx_211 (by decide) (by decide)) v_189 (rv_189) v_190 (rv_190) v_191 (rv_191) v_192 (rv_192) q_193 q_194 q_195 q_196 q_197 ⟨by omega, by omega⟩ (ms_1 hm_199 (ti_k tx_211 rc_1) (by decide))
  refine g_aload_n C 0 dX12_readSaid_0 rfl rfl ?_
  refine g_bipush C (v := 40) dX12_readSaid_1 (by decide) ?_
  obtain ⟨x_212, hx_212, rx_212⟩ := ex_getw (I := I) (a := x) (j := 7) (lo := 0) (hi := 4) hU.1 hLx (ro_o hkx (by decide)) rfl
  refine g_callVI C K (c_X12_isSign W9 hLx hkx 40 (rg_w rc_40 (by decide) (by decide)) hU) hLx hkx (by decide) rfl v_12_159 rfl ⟨rfl, rfl⟩ ⟨Nat.le_of_ble_eq_true rfl, Nat.le_of_ble_eq_true rfl⟩ (Nat.le_of_ble_eq_true rfl) ⟨Nat.le_of_ble_eq_true rfl, Nat.le_of_ble_eq_true rfl⟩ dX12_readSaid_3 rfl (st := []) (fun x_213 I_214 J_215 h_216 => ?_)
  obtain ⟨rfl, rfl, rx_213, fx_213, ex_213⟩ := h_216
  have q_217 := hx_212
  refine g_istore_n C dX12_readSaid_6 rfl (by decide) (lo2 := [(1, .int x_213), (0, .ref x)]) rfl ?_
  refine g_bipush C (v := 18) dX12_readSaid_7 (by decide) ?_
  refine g_istore_n C dX12_readSaid_9 rfl (by decide) (lo2 := [(2, .int 18), (1, .int x_213), (0, .ref x)]) rfl ?_
  refine g_lo (is := [2, 1, 0]) (lo2 := [(0, .ref x), (1, .int x_213), (2, .int 18)]) rfl ?_
  exact l_10 11 I J hU hF hG x_213 (rx_213) 18 (rg_w rc_18 (by decide) (by decide)) x_1 (rx_1) x_2 (rx_2) x_3 (rx_3) x_212 (rx_212) hx_1 hx_2 hwi hx_3 hx_212 ⟨by omega, by omega⟩ (ms_s (a := 18) (b := 28) (N := 11) (rg_w rc_18 (by decide) (by decide)) (by decide))
set_option maxRecDepth 100000 in
set_option maxHeartbeats 8000000 in
theorem c_X12_readAnd_2 {l : Launch} {D : va_G} {cy : Nat → ClassId} {L : List Nat} {κ ln : Nat → Nat} {R : Nat → Nat → Option Nat} {I : Nat → Nat → Int32} {J : Nat → Nat → Int64} {ow : Nat → Nat × Nat} (W9 : ∀ a ∈ L, Shp L κ ln R ow a) {x : Nat} (hLx : x ∈ L) (hkx : κ x = 12) (hU : Iw L κ R ow I) (hn : (I x 47).toInt ≤ 2 * (I x 48).toInt) (hwi : I x 49 = 2) : CtI l yX12_readAnd cX12_readAnd 2 (some .boolean) { frames := 28, cells := 0, slots := 0, locals := 602 } D cy L κ ln R I J [.ref x] (fun r I2 J2 => Iw L κ R ow I2 ∧ Fq L κ ow [1205, 1206, 1207, 1208, 1209, 1210, 1211, 1213, 1247, 1248, 1249, 1250, 86600] I I2 ∧ Fq L κ ow [1212] J J2 ∧ Rg 0 1 r ∧ (¬ r = 0 → Sz_ x I I2 1) ∧ (I2 x 49 = 2)) := by
  obtain ⟨x_1, hx_1, rx_1⟩ := ex_getw (I := I) (a := x) (j := 47) (lo := 0) (hi := 60) hU.1 hLx (ro_o hkx (by decide)) rfl
  obtain ⟨x_2, hx_2, rx_2⟩ := ex_getw (I := I) (a := x) (j := 48) (lo := 0) (hi := 20) hU.1 hLx (ro_o hkx (by decide)) rfl
  rw [hx_1, hx_2] at hn
  obtain ⟨x_3, hx_3, rx_3⟩ := ex_getw (I := I) (a := x) (j := 50) (lo := 0) (hi := 59) hU.1 hLx (ro_o hkx (by decide)) rfl
  refine CtI.of (by decide +kernel) (Nat.le_of_ble_eq_true rfl) ?_
  intro p e s m below meth c B K
  have C := B.1
  have hF : Fq L κ ow [1205, 1206, 1207, 1208, 1209, 1210, 1211, 1213, 1247, 1248, 1249, 1250, 86600] I I := fq_rf
  have hG : Fq L κ ow [1212] J J := fq_rf
  refine g_lo (is := [0]) (lo2 := [(0, .ref x)]) rfl ?_
  have l_14 : ∀ (n_14 : Nat) (I_4 : Nat → Nat → Int32) (J_5 : Nat → Nat → Int64) (hU_6 : Iw L κ R ow I_4) (hF_7 : Fq L κ ow [1205, 1206, 1207, 1208, 1209, 1210, 1211, 1213, 1247, 1248, 1249, 1250, 86600] I I_4) (hG_8 : Fq L κ ow [1212] J J_5) (v_9 : Int32) (rv_9 : Rg 0 59 v_9) (v_10 : Int32) (rv_10 : Rg 0 60 v_10) (v_11 : Int32) (rv_11 : Rg 0 20 v_11) (v_12 : Int32) (rv_12 : Rg 0 59 v_12) (q_13 : I_4 x 47 = v_10) (q_14 : I_4 x 48 = v_11) (q_15 : I_4 x 49 = 2) (q_16 : I_4 x 50 = v_12) (hj_17 : x_1.toInt ≤ v_10.toInt ∧ x_2.toInt + 1 ≤ v_11.toInt ∧ 2 * x_2.toInt - x_1.toInt + 1 ≤ 2 * v_11.toInt - v_10.toInt ∧ v_9.toInt < v_10.toInt) (hm_18 : 20 < v_11.toInt + (n_14 : Int)), WG p l e { frames := 28, cells := 0, slots := 0, locals := 602 } s m ([.ref x] : List Value).toArray below meth c 2 0 0 (MQ below (Qi_ D cy L κ ln R (fun r I2 J2 => Iw L κ R ow I2 ∧ Fq L κ ow [1205, 1206, 1207, 1208, 1209, 1210, 1211, 1213, 1247, 1248, 1249, 1250, 86600] I I2 ∧ Fq L κ ow [1212] J J2 ∧ Rg 0 1 r ∧ (¬ r = 0 → Sz_ x I I2 1) ∧ (I2 x 49 = 2))) ([.ref x] : List Value).toArray s 0 0 (Al_ L)) D cy (Al_ L) s.heap L κ ln R I_4 J_5 14 [(0, .ref x), (1, .int v_9)] [] := by
    intro n_14
    induction n_14 with
    | zero =>
      intro I_4 J_5 hU_6 hF_7 hG_8 v_9 rv_9 v_10 rv_10 v_11 rv_11 v_12 rv_12 q_13 q_14 q_15 q_16 hj_17 hm_18
      exact absurd hm_18 (by have := (rv_11).2; omega)
    | succ n_14 ih_14 =>
      intro I_4 J_5 hU_6 hF_7 hG_8 v_9 rv_9 v_10 rv_10 v_11 rv_11 v_12 rv_12 q_13 q_14 q_15 q_16 hj_17 hm_18
      refine g_aload_n C 0 dX12_readAnd_14 rfl rfl ?_
      refine g_bipush C (v := 17) dX12_readAnd_15 (by decide) ?_
      refine g_callVI C K (c_X12_isWord W9 hLx hkx 17 (rg_w rc_17 (by decide) (by decide)) hU_6) hLx hkx (by decide) rfl v_12_191 rfl ⟨rfl, rfl⟩ ⟨Nat.le_of_ble_eq_true rfl, Nat.le_of_ble_eq_true rfl⟩ (Nat.le_of_ble_eq_true rfl) ⟨Nat.le_of_ble_eq_true rfl, Nat.le_of_ble_eq_true rfl⟩ dX12_readAnd_17 rfl (st := []) (fun x_19 I_20 J_21 h_22 => ?_)
      obtain ⟨rfl, rfl, rx_19, fx_19⟩ := h_22
      refine g_if_eq C (tgt := 51) dX12_readAnd_20 (by decide) (fun h_23 => ?_) (fun h_23 => ?_)
      · skip
        have r_24 := (⟨(rx_19).1, (eq_rg (h_23) rc_0).2⟩ : Rg 0 0 x_19)
        refine g_aload_n C 0 dX12_readAnd_51 rfl rfl ?_
        refine g_iload_n C 1 dX12_readAnd_52 rfl rfl ?_
        refine h_putI C K hLx hkx f_12_386 p_12_50 dX12_readAnd_53 (fun I_25 hI_25 => ?_)
        have hU_26 := iw_put W9 hU_6 hI_25 (ro_o hkx (by decide)) (lo := 0) (hi := 59) (rfl) (rv_9) rfl
        have hF_27 := fq_puto hF_7 hI_25 hkx (by decide) (by decide)
        refine g_iconst C (v := 1) dX12_readAnd_56 (by decide) ?_
        exact g_zret (ty := .boolean) (r := 1) B K rfl (rfl) ⟨hU_26, hF_27, hG_8, rg_w rc_1 (by decide) (by decide), (fun _ => (sz_m hx_1 hx_2 (kp_j hI_25 (by decide) q_13) (kp_j hI_25 (by decide) q_14) (kp_s hI_25) ⟨by omega, by omega, by omega, by omega⟩)), (kp_j hI_25 (by decide) q_15)⟩ dX12_readAnd_57
      · skip
        have n_28 : ¬ x_19 = 0 := h_23
        have r_29 := ne_lo (lo := 1) n_28 rx_19 rc_0 rfl (by decide)
        refine g_aload_n C 0 dX12_readAnd_23 rfl rfl ?_
        refine g_callVV C K (c_X12_go W9 hLx hkx   hU_6) hLx hkx (by decide) rfl v_12_156 rfl ⟨rfl, rfl⟩ ⟨Nat.le_of_ble_eq_true rfl, Nat.le_of_ble_eq_true rfl⟩ (Nat.le_of_ble_eq_true rfl) ⟨Nat.le_of_ble_eq_true rfl, Nat.le_of_ble_eq_true rfl⟩ dX12_readAnd_24 rfl (st := []) (fun I_31 J_32 h_33 => ?_)
        obtain ⟨hUI_31, hFI_31, hGJ_32, fx_30, ex_30⟩ := h_33
        have hF_34 := fq_tr hF_7 hFI_31 (by decide)
        have hG_35 := fq_tr hG_8 hGJ_32 (by decide)
        refine g_aload_n C 0 dX12_readAnd_27 rfl rfl ?_
        refine g_callVI C K (c_X12_readSaid_2 W9 hLx hkx   hUI_31  (by rw [(fq_at hFI_31 hLx hkx (by decide) (by decide) q_13), (fq_at hFI_31 hLx hkx (by decide) (by decide) q_14)]; omega) ((fq_at hFI_31 hLx hkx (by decide) (by decide) q_15))) hLx hkx (by decide) rfl v_12_392 rfl ⟨rfl, rfl⟩ ⟨Nat.le_of_ble_eq_true rfl, Nat.le_of_ble_eq_true rfl⟩ (Nat.le_of_ble_eq_true rfl) ⟨Nat.le_of_ble_eq_true rfl, Nat.le_of_ble_eq_true rfl⟩ dX12_readAnd_28 rfl (st := []) (fun x_36 I_37 J_38 h_39 => ?_)
        obtain ⟨hUI_37, hFI_37, hGJ_38, rx_36, ex_36⟩ := h_39
        have hF_40 := fq_tr hF_34 hFI_37 (by decide)
        have hG_41 := fq_tr hG_35 hGJ_38 (by decide)
        obtain ⟨x_42, hx_42, rx_42⟩ := ex_getw (I := I_37) (a := x) (j := 47) (lo := 0) (hi := 60) hUI_37.1 hLx (ro_o hkx (by decide)) rfl
        obtain ⟨x_43, hx_43, rx_43⟩ := ex_getw (I := I_37) (a := x) (j := 50) (lo := 0) (hi := 59) hUI_37.1 hLx (ro_o hkx (by decide)) rfl
        obtain ⟨x_44, hx_44, rx_44⟩ := ex_getw (I := I_37) (a := x) (j := 48) (lo := 0) (hi := 20) hUI_37.1 hLx (ro_o hkx (by decide)) rfl
        refine g_if_ne C (tgt := 36) dX12_readAnd_31 (by decide) (fun h_45 => ?_) (fun h_45 => ?_)
        · skip
          have n_46 : ¬ x_36 = 0 := h_45
          have r_47 := ne_lo (lo := 1) n_46 rx_36 rc_0 rfl (by decide)
          have f_48 := sz_v (fq_at hFI_31 hLx hkx (by decide) (by decide) q_13) (fq_at hFI_31 hLx hkx (by decide) (by decide) q_14) hx_42 hx_44 hx_43 (ex_36.1 n_46)
          refine g_aload_n C 0 dX12_readAnd_36 rfl rfl ?_
          refine g_iconst C (v := 2) dX12_readAnd_37 (by decide) ?_
          refine g_iload_n C 1 dX12_readAnd_38 rfl rfl ?_
          refine g_aload_n C 0 dX12_readAnd_39 rfl rfl ?_
          refine g_getI C K hLx hkx f_12_386 (v := x_43) hx_43 dX12_readAnd_40 ?_
          refine g_iconst C (v := 0) dX12_readAnd_43 (by decide) ?_
          have r_49 := (show Rg 0 59 x_42 from by have q1 := rx_42; have q2 := rx_44; unfold Rg at *; omega)
          refine g_callVI C K (c_X12_saysOne W9 hLx hkx 2 v_9 x_43 0 (rg_w rc_2 (by decide) (by decide)) (rv_9) (rg_w rx_43 (by decide) (by decide)) hUI_37  (eq_rg hx_42 (r_49)) (by rw [hx_42]; exact ⟨fun _ => ⟨by have := (rv_9).1; omega, by omega⟩, fun _ => ⟨by have := (rx_43).1; omega, by omega⟩, fun q => absurd q (by decide)⟩)) hLx hkx (by decide) rfl v_12_389 rfl ⟨rfl, rfl⟩ ⟨Nat.le_of_ble_eq_true rfl, Nat.le_of_ble_eq_true rfl⟩ (Nat.le_of_ble_eq_true rfl) ⟨Nat.le_of_ble_eq_true rfl, Nat.le_of_ble_eq_true rfl⟩ dX12_readAnd_44 rfl (st := []) (fun x_50 I_51 J_52 h_53 => ?_)
          obtain ⟨hUI_51, hFI_51, hGJ_52, rx_50, ex_50⟩ := h_53
          have hF_54 := fq_tr hF_40 hFI_51 (by decide)
          have hG_55 := fq_tr hG_41 hGJ_52 (by decide)
          obtain ⟨x_56, hx_56, rx_56, tx_56, ux_56⟩ := sa_b (lo := 1) (hi := 60) ex_50 hx_42 r_49 (by decide) (by decide)
          have r_57 := (show Rg 0 59 x_50 from by have q1 := ux_56; have q2 := r_49; unfold Rg at *; omega)
          refine g_istore_n C dX12_readAnd_47 rfl (by decide) (lo2 := [(1, .int x_50), (0, .ref x)]) rfl ?_
          refine g_goto C (tgt := 14) dX12_readAnd_48 (by decide) ?_
          refine g_lo (is := [1, 0]) (lo2 := [(0, .ref x), (1, .int x_50)]) rfl ?_
          exact ih_14 I_51 J_52 hUI_51 hF_54 hG_55 x_50 (r_57) x_56 (rg_w rx_56 (by decide) (by decide)) x_44 (rx_44) x_43 (rx_43) hx_56 (fq_at hFI_51 hLx hkx (by decide) (by decide) hx_44) (fq_at hFI_51 hLx hkx (by decide) (by decide) ex_36.2) (fq_at hFI_51 hLx hkx (by decide) (by decide) hx_43) ⟨by have := tx_56; omega, by have := tx_56; omega, by have := tx_56; omega, by have := tx_56; omega⟩ (by have q9 := hm_18; have := tx_56; omega)
        · skip
          have r_58 := (⟨(rx_36).1, (eq_rg (h_45) rc_0).2⟩ : Rg 0 0 x_36)
          refine g_iconst C (v := 0) dX12_readAnd_34 (by decide) ?_
          exact g_zret (ty := .boolean) (r := 0) B K rfl (rfl) ⟨hUI_37, hF_40, hG_41, rg_w rc_0 (by decide) (by decide), (fun q => absurd rfl q), ex_36.2⟩ dX12_readAnd_35
  refine g_aload_n C 0 dX12_readAnd_0 rfl rfl ?_
  refine g_callVI C K (c_X12_readSaid_2 W9 hLx hkx   hU  (by rw [hx_1, hx_2]; omega) (hwi)) hLx hkx (by decide) rfl v_12_392 rfl ⟨rfl, rfl⟩ ⟨Nat.le_of_ble_eq_true rfl, Nat.le_of_ble_eq_true rfl⟩ (Nat.le_of_ble_eq_true rfl) ⟨Nat.le_of_ble_eq_true rfl, Nat.le_of_ble_eq_true rfl⟩ dX12_readAnd_1 rfl (st := []) (fun x_59 I_60 J_61 h_62 => ?_)
  obtain ⟨hUI_60, hFI_60, hGJ_61, rx_59, ex_59⟩ := h_62
  have hF_63 := fq_tr hF hFI_60 (by decide)
  have hG_64 := fq_tr hG hGJ_61 (by decide)
  obtain ⟨x_65, hx_65, rx_65⟩ := ex_getw (I := I_60) (a := x) (j := 47) (lo := 0) (hi := 60) hUI_60.1 hLx (ro_o hkx (by decide)) rfl
  obtain ⟨x_66, hx_66, rx_66⟩ := ex_getw (I := I_60) (a := x) (j := 50) (lo := 0) (hi := 59) hUI_60.1 hLx (ro_o hkx (by decide)) rfl
  obtain ⟨x_67, hx_67, rx_67⟩ := ex_getw (I := I_60) (a := x) (j := 48) (lo := 0) (hi := 20) hUI_60.1 hLx (ro_o hkx (by decide)) rfl
  refine g_if_ne C (tgt := 9) dX12_readAnd_4 (by decide) (fun h_68 => ?_) (fun h_68 => ?_)
  · skip
    have n_69 : ¬ x_59 = 0 := h_68
    have r_70 := ne_lo (lo := 1) n_69 rx_59 rc_0 rfl (by decide)
    have f_71 := sz_v hx_1 hx_2 hx_65 hx_67 hx_66 (ex_59.1 n_69)
    refine g_aload_n C 0 dX12_readAnd_9 rfl rfl ?_
    refine g_getI C K hLx hkx f_12_386 (v := x_66) hx_66 dX12_readAnd_10 ?_
    refine g_istore_n C dX12_readAnd_13 rfl (by decide) (lo2 := [(1, .int x_66), (0, .ref x)]) rfl ?_
    refine g_lo (is := [1, 0]) (lo2 := [(0, .ref x), (1, .int x_66)]) rfl ?_
    exact l_14 21 I_60 J_61 hUI_60 hF_63 hG_64 x_66 (rx_66) x_65 (rx_65) x_67 (rx_67) x_66 (rx_66) hx_65 hx_67 ex_59.2 hx_66 ⟨by omega, by omega, by omega, by omega⟩ (by have := (rx_67).1; omega)
  · skip
    have r_72 := (⟨(rx_59).1, (eq_rg (h_68) rc_0).2⟩ : Rg 0 0 x_59)
    refine g_iconst C (v := 0) dX12_readAnd_7 (by decide) ?_
    exact g_zret (ty := .boolean) (r := 0) B K rfl (rfl) ⟨hUI_60, hF_63, hG_64, rg_w rc_0 (by decide) (by decide), (fun q => absurd rfl q), ex_59.2⟩ dX12_readAnd_8
set_option maxRecDepth 100000 in
set_option maxHeartbeats 8000000 in
theorem c_X12_readOr_2 {l : Launch} {D : va_G} {cy : Nat → ClassId} {L : List Nat} {κ ln : Nat → Nat} {R : Nat → Nat → Option Nat} {I : Nat → Nat → Int32} {J : Nat → Nat → Int64} {ow : Nat → Nat × Nat} (W9 : ∀ a ∈ L, Shp L κ ln R ow a) {x : Nat} (hLx : x ∈ L) (hkx : κ x = 12) (hU : Iw L κ R ow I) (hn : (I x 47).toInt ≤ 2 * (I x 48).toInt) (hwi : I x 49 = 2) : CtI l yX12_readOr cX12_readOr 2 (some .boolean) { frames := 29, cells := 0, slots := 0, locals := 623 } D cy L κ ln R I J [.ref x] (fun r I2 J2 => Iw L κ R ow I2 ∧ Fq L κ ow [1205, 1206, 1207, 1208, 1209, 1210, 1211, 1213, 1247, 1248, 1249, 1250, 86600] I I2 ∧ Fq L κ ow [1212] J J2 ∧ Rg 0 1 r ∧ (¬ r = 0 → Sz_ x I I2 1) ∧ (I2 x 49 = 2)) := by
  obtain ⟨x_1, hx_1, rx_1⟩ := ex_getw (I := I) (a := x) (j := 47) (lo := 0) (hi := 60) hU.1 hLx (ro_o hkx (by decide)) rfl
  obtain ⟨x_2, hx_2, rx_2⟩ := ex_getw (I := I) (a := x) (j := 48) (lo := 0) (hi := 20) hU.1 hLx (ro_o hkx (by decide)) rfl
  rw [hx_1, hx_2] at hn
  obtain ⟨x_3, hx_3, rx_3⟩ := ex_getw (I := I) (a := x) (j := 50) (lo := 0) (hi := 59) hU.1 hLx (ro_o hkx (by decide)) rfl
  refine CtI.of (by decide +kernel) (Nat.le_of_ble_eq_true rfl) ?_
  intro p e s m below meth c B K
  have C := B.1
  have hF : Fq L κ ow [1205, 1206, 1207, 1208, 1209, 1210, 1211, 1213, 1247, 1248, 1249, 1250, 86600] I I := fq_rf
  have hG : Fq L κ ow [1212] J J := fq_rf
  refine g_lo (is := [0]) (lo2 := [(0, .ref x)]) rfl ?_
  have l_14 : ∀ (n_14 : Nat) (I_4 : Nat → Nat → Int32) (J_5 : Nat → Nat → Int64) (hU_6 : Iw L κ R ow I_4) (hF_7 : Fq L κ ow [1205, 1206, 1207, 1208, 1209, 1210, 1211, 1213, 1247, 1248, 1249, 1250, 86600] I I_4) (hG_8 : Fq L κ ow [1212] J J_5) (v_9 : Int32) (rv_9 : Rg 0 59 v_9) (v_10 : Int32) (rv_10 : Rg 0 60 v_10) (v_11 : Int32) (rv_11 : Rg 0 20 v_11) (v_12 : Int32) (rv_12 : Rg 0 59 v_12) (q_13 : I_4 x 47 = v_10) (q_14 : I_4 x 48 = v_11) (q_15 : I_4 x 49 = 2) (q_16 : I_4 x 50 = v_12) (hj_17 : x_1.toInt ≤ v_10.toInt ∧ x_2.toInt + 1 ≤ v_11.toInt ∧ 2 * x_2.toInt - x_1.toInt + 1 ≤ 2 * v_11.toInt - v_10.toInt ∧ v_9.toInt < v_10.toInt) (hm_18 : 20 < v_11.toInt + (n_14 : Int)), WG p l e { frames := 29, cells := 0, slots := 0, locals := 623 } s m ([.ref x] : List Value).toArray below meth c 2 0 0 (MQ below (Qi_ D cy L κ ln R (fun r I2 J2 => Iw L κ R ow I2 ∧ Fq L κ ow [1205, 1206, 1207, 1208, 1209, 1210, 1211, 1213, 1247, 1248, 1249, 1250, 86600] I I2 ∧ Fq L κ ow [1212] J J2 ∧ Rg 0 1 r ∧ (¬ r = 0 → Sz_ x I I2 1) ∧ (I2 x 49 = 2))) ([.ref x] : List Value).toArray s 0 0 (Al_ L)) D cy (Al_ L) s.heap L κ ln R I_4 J_5 14 [(0, .ref x), (1, .int v_9)] [] := by
    intro n_14
    induction n_14 with
    | zero =>
      intro I_4 J_5 hU_6 hF_7 hG_8 v_9 rv_9 v_10 rv_10 v_11 rv_11 v_12 rv_12 q_13 q_14 q_15 q_16 hj_17 hm_18
      exact absurd hm_18 (by have := (rv_11).2; omega)
    | succ n_14 ih_14 =>
      intro I_4 J_5 hU_6 hF_7 hG_8 v_9 rv_9 v_10 rv_10 v_11 rv_11 v_12 rv_12 q_13 q_14 q_15 q_16 hj_17 hm_18
      refine g_aload_n C 0 dX12_readOr_14 rfl rfl ?_
      refine g_bipush C (v := 16) dX12_readOr_15 (by decide) ?_
      refine g_callVI C K (c_X12_isWord W9 hLx hkx 16 (rg_w rc_16 (by decide) (by decide)) hU_6) hLx hkx (by decide) rfl v_12_191 rfl ⟨rfl, rfl⟩ ⟨Nat.le_of_ble_eq_true rfl, Nat.le_of_ble_eq_true rfl⟩ (Nat.le_of_ble_eq_true rfl) ⟨Nat.le_of_ble_eq_true rfl, Nat.le_of_ble_eq_true rfl⟩ dX12_readOr_17 rfl (st := []) (fun x_19 I_20 J_21 h_22 => ?_)
      obtain ⟨rfl, rfl, rx_19, fx_19⟩ := h_22
      refine g_if_eq C (tgt := 51) dX12_readOr_20 (by decide) (fun h_23 => ?_) (fun h_23 => ?_)
      · skip
        have r_24 := (⟨(rx_19).1, (eq_rg (h_23) rc_0).2⟩ : Rg 0 0 x_19)
        refine g_aload_n C 0 dX12_readOr_51 rfl rfl ?_
        refine g_iload_n C 1 dX12_readOr_52 rfl rfl ?_
        refine h_putI C K hLx hkx f_12_386 p_12_50 dX12_readOr_53 (fun I_25 hI_25 => ?_)
        have hU_26 := iw_put W9 hU_6 hI_25 (ro_o hkx (by decide)) (lo := 0) (hi := 59) (rfl) (rv_9) rfl
        have hF_27 := fq_puto hF_7 hI_25 hkx (by decide) (by decide)
        refine g_iconst C (v := 1) dX12_readOr_56 (by decide) ?_
        exact g_zret (ty := .boolean) (r := 1) B K rfl (rfl) ⟨hU_26, hF_27, hG_8, rg_w rc_1 (by decide) (by decide), (fun _ => (sz_m hx_1 hx_2 (kp_j hI_25 (by decide) q_13) (kp_j hI_25 (by decide) q_14) (kp_s hI_25) ⟨by omega, by omega, by omega, by omega⟩)), (kp_j hI_25 (by decide) q_15)⟩ dX12_readOr_57
      · skip
        have n_28 : ¬ x_19 = 0 := h_23
        have r_29 := ne_lo (lo := 1) n_28 rx_19 rc_0 rfl (by decide)
        refine g_aload_n C 0 dX12_readOr_23 rfl rfl ?_
        refine g_callVV C K (c_X12_go W9 hLx hkx   hU_6) hLx hkx (by decide) rfl v_12_156 rfl ⟨rfl, rfl⟩ ⟨Nat.le_of_ble_eq_true rfl, Nat.le_of_ble_eq_true rfl⟩ (Nat.le_of_ble_eq_true rfl) ⟨Nat.le_of_ble_eq_true rfl, Nat.le_of_ble_eq_true rfl⟩ dX12_readOr_24 rfl (st := []) (fun I_31 J_32 h_33 => ?_)
        obtain ⟨hUI_31, hFI_31, hGJ_32, fx_30, ex_30⟩ := h_33
        have hF_34 := fq_tr hF_7 hFI_31 (by decide)
        have hG_35 := fq_tr hG_8 hGJ_32 (by decide)
        refine g_aload_n C 0 dX12_readOr_27 rfl rfl ?_
        refine g_callVI C K (c_X12_readAnd_2 W9 hLx hkx   hUI_31  (by rw [(fq_at hFI_31 hLx hkx (by decide) (by decide) q_13), (fq_at hFI_31 hLx hkx (by decide) (by decide) q_14)]; omega) ((fq_at hFI_31 hLx hkx (by decide) (by decide) q_15))) hLx hkx (by decide) rfl v_12_383 rfl ⟨rfl, rfl⟩ ⟨Nat.le_of_ble_eq_true rfl, Nat.le_of_ble_eq_true rfl⟩ (Nat.le_of_ble_eq_true rfl) ⟨Nat.le_of_ble_eq_true rfl, Nat.le_of_ble_eq_true rfl⟩ dX12_readOr_28 rfl (st := []) (fun x_36 I_37 J_38 h_39 => ?_)
        obtain ⟨hUI_37, hFI_37, hGJ_38, rx_36, ex_36⟩ := h_39
        have hF_40 := fq_tr hF_34 hFI_37 (by decide)
        have hG_41 := fq_tr hG_35 hGJ_38 (by decide)
        obtain ⟨x_42, hx_42, rx_42⟩ := ex_getw (I := I_37) (a := x) (j := 47) (lo := 0) (hi := 60) hUI_37.1 hLx (ro_o hkx (by decide)) rfl
        obtain ⟨x_43, hx_43, rx_43⟩ := ex_getw (I := I_37) (a := x) (j := 50) (lo := 0) (hi := 59) hUI_37.1 hLx (ro_o hkx (by decide)) rfl
        obtain ⟨x_44, hx_44, rx_44⟩ := ex_getw (I := I_37) (a := x) (j := 48) (lo := 0) (hi := 20) hUI_37.1 hLx (ro_o hkx (by decide)) rfl
        refine g_if_ne C (tgt := 36) dX12_readOr_31 (by decide) (fun h_45 => ?_) (fun h_45 => ?_)
        · skip
          have n_46 : ¬ x_36 = 0 := h_45
          have r_47 := ne_lo (lo := 1) n_46 rx_36 rc_0 rfl (by decide)
          have f_48 := sz_v (fq_at hFI_31 hLx hkx (by decide) (by decide) q_13) (fq_at hFI_31 hLx hkx (by decide) (by decide) q_14) hx_42 hx_44 hx_43 (ex_36.1 n_46)
          refine g_aload_n C 0 dX12_readOr_36 rfl rfl ?_
          refine g_iconst C (v := 3) dX12_readOr_37 (by decide) ?_
          refine g_iload_n C 1 dX12_readOr_38 rfl rfl ?_
          refine g_aload_n C 0 dX12_readOr_39 rfl rfl ?_
          refine g_getI C K hLx hkx f_12_386 (v := x_43) hx_43 dX12_readOr_40 ?_
          refine g_iconst C (v := 0) dX12_readOr_43 (by decide) ?_
          have r_49 := (show Rg 0 59 x_42 from by have q1 := rx_42; have q2 := rx_44; unfold Rg at *; omega)
          refine g_callVI C K (c_X12_saysOne W9 hLx hkx 3 v_9 x_43 0 (rg_w rc_3 (by decide) (by decide)) (rv_9) (rg_w rx_43 (by decide) (by decide)) hUI_37  (eq_rg hx_42 (r_49)) (by rw [hx_42]; exact ⟨fun _ => ⟨by have := (rv_9).1; omega, by omega⟩, fun _ => ⟨by have := (rx_43).1; omega, by omega⟩, fun q => absurd q (by decide)⟩)) hLx hkx (by decide) rfl v_12_389 rfl ⟨rfl, rfl⟩ ⟨Nat.le_of_ble_eq_true rfl, Nat.le_of_ble_eq_true rfl⟩ (Nat.le_of_ble_eq_true rfl) ⟨Nat.le_of_ble_eq_true rfl, Nat.le_of_ble_eq_true rfl⟩ dX12_readOr_44 rfl (st := []) (fun x_50 I_51 J_52 h_53 => ?_)
          obtain ⟨hUI_51, hFI_51, hGJ_52, rx_50, ex_50⟩ := h_53
          have hF_54 := fq_tr hF_40 hFI_51 (by decide)
          have hG_55 := fq_tr hG_41 hGJ_52 (by decide)
          obtain ⟨x_56, hx_56, rx_56, tx_56, ux_56⟩ := sa_b (lo := 1) (hi := 60) ex_50 hx_42 r_49 (by decide) (by decide)
          have r_57 := (show Rg 0 59 x_50 from by have q1 := ux_56; have q2 := r_49; unfold Rg at *; omega)
          refine g_istore_n C dX12_readOr_47 rfl (by decide) (lo2 := [(1, .int x_50), (0, .ref x)]) rfl ?_
          refine g_goto C (tgt := 14) dX12_readOr_48 (by decide) ?_
          refine g_lo (is := [1, 0]) (lo2 := [(0, .ref x), (1, .int x_50)]) rfl ?_
          exact ih_14 I_51 J_52 hUI_51 hF_54 hG_55 x_50 (r_57) x_56 (rg_w rx_56 (by decide) (by decide)) x_44 (rx_44) x_43 (rx_43) hx_56 (fq_at hFI_51 hLx hkx (by decide) (by decide) hx_44) (fq_at hFI_51 hLx hkx (by decide) (by decide) ex_36.2) (fq_at hFI_51 hLx hkx (by decide) (by decide) hx_43) ⟨by have := tx_56; omega, by have := tx_56; omega, by have := tx_56; omega, by have := tx_56; omega⟩ (by have q9 := hm_18; have := tx_56; omega)
        · skip
          have r_58 := (⟨(rx_36).1, (eq_rg (h_45) rc_0).2⟩ : Rg 0 0 x_36)
          refine g_iconst C (v := 0) dX12_readOr_34 (by decide) ?_
          exact g_zret (ty := .boolean) (r := 0) B K rfl (rfl) ⟨hUI_37, hF_40, hG_41, rg_w rc_0 (by decide) (by decide), (fun q => absurd rfl q), ex_36.2⟩ dX12_readOr_35
  refine g_aload_n C 0 dX12_readOr_0 rfl rfl ?_
  refine g_callVI C K (c_X12_readAnd_2 W9 hLx hkx   hU  (by rw [hx_1, hx_2]; omega) (hwi)) hLx hkx (by decide) rfl v_12_383 rfl ⟨rfl, rfl⟩ ⟨Nat.le_of_ble_eq_true rfl, Nat.le_of_ble_eq_true rfl⟩ (Nat.le_of_ble_eq_true rfl) ⟨Nat.le_of_ble_eq_true rfl, Nat.le_of_ble_eq_true rfl⟩ dX12_readOr_1 rfl (st := []) (fun x_59 I_60 J_61 h_62 => ?_)
  obtain ⟨hUI_60, hFI_60, hGJ_61, rx_59, ex_59⟩ := h_62
  have hF_63 := fq_tr hF hFI_60 (by decide)
  have hG_64 := fq_tr hG hGJ_61 (by decide)
  obtain ⟨x_65, hx_65, rx_65⟩ := ex_getw (I := I_60) (a := x) (j := 47) (lo := 0) (hi := 60) hUI_60.1 hLx (ro_o hkx (by decide)) rfl
  obtain ⟨x_66, hx_66, rx_66⟩ := ex_getw (I := I_60) (a := x) (j := 50) (lo := 0) (hi := 59) hUI_60.1 hLx (ro_o hkx (by decide)) rfl
  obtain ⟨x_67, hx_67, rx_67⟩ := ex_getw (I := I_60) (a := x) (j := 48) (lo := 0) (hi := 20) hUI_60.1 hLx (ro_o hkx (by decide)) rfl
  refine g_if_ne C (tgt := 9) dX12_readOr_4 (by decide) (fun h_68 => ?_) (fun h_68 => ?_)
  · skip
    have n_69 : ¬ x_59 = 0 := h_68
    have r_70 := ne_lo (lo := 1) n_69 rx_59 rc_0 rfl (by decide)
    have f_71 := sz_v hx_1 hx_2 hx_65 hx_67 hx_66 (ex_59.1 n_69)
    refine g_aload_n C 0 dX12_readOr_9 rfl rfl ?_
    refine g_getI C K hLx hkx f_12_386 (v := x_66) hx_66 dX12_readOr_10 ?_
    refine g_istore_n C dX12_readOr_13 rfl (by decide) (lo2 := [(1, .int x_66), (0, .ref x)]) rfl ?_
    refine g_lo (is := [1, 0]) (lo2 := [(0, .ref x), (1, .int x_66)]) rfl ?_
    exact l_14 21 I_60 J_61 hUI_60 hF_63 hG_64 x_66 (rx_66) x_65 (rx_65) x_67 (rx_67) x_66 (rx_66) hx_65 hx_67 ex_59.2 hx_66 ⟨by omega, by omega, by omega, by omega⟩ (by have := (rx_67).1; omega)
  · skip
    have r_72 := (⟨(rx_59).1, (eq_rg (h_68) rc_0).2⟩ : Rg 0 0 x_59)
    refine g_iconst C (v := 0) dX12_readOr_7 (by decide) ?_
    exact g_zret (ty := .boolean) (r := 0) B K rfl (rfl) ⟨hUI_60, hF_63, hG_64, rg_w rc_0 (by decide) (by decide), (fun q => absurd rfl q), ex_59.2⟩ dX12_readOr_8
set_option maxRecDepth 100000 in
set_option maxHeartbeats 8000000 in
theorem c_X12_readBracket_2 {l : Launch} {D : va_G} {cy : Nat → ClassId} {L : List Nat} {κ ln : Nat → Nat} {R : Nat → Nat → Option Nat} {I : Nat → Nat → Int32} {J : Nat → Nat → Int64} {ow : Nat → Nat × Nat} (W9 : ∀ a ∈ L, Shp L κ ln R ow a) {x : Nat} (hLx : x ∈ L) (hkx : κ x = 12) (hU : Iw L κ R ow I) (hn : (I x 47).toInt ≤ 2 * (I x 48).toInt) (hwi : I x 49 = 2) : CtI l yX12_readBracket cX12_readBracket 1 (some .boolean) { frames := 30, cells := 0, slots := 0, locals := 644 } D cy L κ ln R I J [.ref x] (fun r I2 J2 => Iw L κ R ow I2 ∧ Fq L κ ow [1205, 1206, 1207, 1208, 1209, 1210, 1211, 1213, 1247, 1248, 1249, 1250, 86600] I I2 ∧ Fq L κ ow [1212] J J2 ∧ Rg 0 1 r ∧ (¬ r = 0 → Sz_ x I I2 1) ∧ (I2 x 49 = 2)) := by
  obtain ⟨x_1, hx_1, rx_1⟩ := ex_getw (I := I) (a := x) (j := 47) (lo := 0) (hi := 60) hU.1 hLx (ro_o hkx (by decide)) rfl
  obtain ⟨x_2, hx_2, rx_2⟩ := ex_getw (I := I) (a := x) (j := 48) (lo := 0) (hi := 20) hU.1 hLx (ro_o hkx (by decide)) rfl
  rw [hx_1, hx_2] at hn
  obtain ⟨x_3, hx_3, rx_3⟩ := ex_getw (I := I) (a := x) (j := 50) (lo := 0) (hi := 59) hU.1 hLx (ro_o hkx (by decide)) rfl
  refine CtI.of (by decide +kernel) (Nat.le_of_ble_eq_true rfl) ?_
  intro p e s m below meth c B K
  have C := B.1
  have hF : Fq L κ ow [1205, 1206, 1207, 1208, 1209, 1210, 1211, 1213, 1247, 1248, 1249, 1250, 86600] I I := fq_rf
  have hG : Fq L κ ow [1212] J J := fq_rf
  refine g_lo (is := [0]) (lo2 := [(0, .ref x)]) rfl ?_
  refine g_aload_n C 0 dX12_readBracket_0 rfl rfl ?_
  refine g_callVI C K (c_X12_readOr_2 W9 hLx hkx   hU  (by rw [hx_1, hx_2]; omega) (hwi)) hLx hkx (by decide) rfl v_12_413 rfl ⟨rfl, rfl⟩ ⟨Nat.le_of_ble_eq_true rfl, Nat.le_of_ble_eq_true rfl⟩ (Nat.le_of_ble_eq_true rfl) ⟨Nat.le_of_ble_eq_true rfl, Nat.le_of_ble_eq_true rfl⟩ dX12_readBracket_1 rfl (st := []) (fun x_4 I_5 J_6 h_7 => ?_)
  obtain ⟨hUI_5, hFI_5, hGJ_6, rx_4, ex_4⟩ := h_7
  have hF_8 := fq_tr hF hFI_5 (by decide)
  have hG_9 := fq_tr hG hGJ_6 (by decide)
  obtain ⟨x_10, hx_10, rx_10⟩ := ex_getw (I := I_5) (a := x) (j := 47) (lo := 0) (hi := 60) hUI_5.1 hLx (ro_o hkx (by decide)) rfl
  obtain ⟨x_11, hx_11, rx_11⟩ := ex_getw (I := I_5) (a := x) (j := 50) (lo := 0) (hi := 59) hUI_5.1 hLx (ro_o hkx (by decide)) rfl
  obtain ⟨x_12, hx_12, rx_12⟩ := ex_getw (I := I_5) (a := x) (j := 48) (lo := 0) (hi := 20) hUI_5.1 hLx (ro_o hkx (by decide)) rfl
  refine g_if_ne C (tgt := 9) dX12_readBracket_4 (by decide) (fun h_13 => ?_) (fun h_13 => ?_)
  · skip
    have n_14 : ¬ x_4 = 0 := h_13
    have r_15 := ne_lo (lo := 1) n_14 rx_4 rc_0 rfl (by decide)
    have f_16 := sz_v hx_1 hx_2 hx_10 hx_12 hx_11 (ex_4.1 n_14)
    refine g_aload_n C 0 dX12_readBracket_9 rfl rfl ?_
    refine g_bipush C (v := 41) dX12_readBracket_10 (by decide) ?_
    obtain ⟨x_17, hx_17, rx_17⟩ := ex_getw (I := I_5) (a := x) (j := 7) (lo := 0) (hi := 4) hUI_5.1 hLx (ro_o hkx (by decide)) rfl
    refine g_callVI C K (c_X12_isSign W9 hLx hkx 41 (rg_w rc_41 (by decide) (by decide)) hUI_5) hLx hkx (by decide) rfl v_12_159 rfl ⟨rfl, rfl⟩ ⟨Nat.le_of_ble_eq_true rfl, Nat.le_of_ble_eq_true rfl⟩ (Nat.le_of_ble_eq_true rfl) ⟨Nat.le_of_ble_eq_true rfl, Nat.le_of_ble_eq_true rfl⟩ dX12_readBracket_12 rfl (st := []) (fun x_18 I_19 J_20 h_21 => ?_)
    obtain ⟨rfl, rfl, rx_18, fx_18, ex_18⟩ := h_21
    have q_22 := hx_17
    refine g_if_ne C (tgt := 24) dX12_readBracket_15 (by decide) (fun h_23 => ?_) (fun h_23 => ?_)
    · skip
      have n_24 : ¬ x_18 = 0 := h_23
      have r_25 := ne_lo (lo := 1) n_24 rx_18 rc_0 rfl (by decide)
      have r_26 := rg_i rx_17 (eq_rg q_22.symm ((ex_18) n_24)) (lo := 4) (hi := 4) (by decide) (by decide)
      refine g_aload_n C 0 dX12_readBracket_24 rfl rfl ?_
      refine g_callVV C K (c_X12_go W9 hLx hkx   hUI_5) hLx hkx (by decide) rfl v_12_156 rfl ⟨rfl, rfl⟩ ⟨Nat.le_of_ble_eq_true rfl, Nat.le_of_ble_eq_true rfl⟩ (Nat.le_of_ble_eq_true rfl) ⟨Nat.le_of_ble_eq_true rfl, Nat.le_of_ble_eq_true rfl⟩ dX12_readBracket_25 rfl (st := []) (fun I_28 J_29 h_30 => ?_)
      obtain ⟨hUI_28, hFI_28, hGJ_29, fx_27, ex_27⟩ := h_30
      have hF_31 := fq_tr hF_8 hFI_28 (by decide)
      have hG_32 := fq_tr hG_9 hGJ_29 (by decide)
      refine g_iconst C (v := 1) dX12_readBracket_28 (by decide) ?_
      exact g_zret (ty := .boolean) (r := 1) B K rfl (rfl) ⟨hUI_28, hF_31, hG_32, rg_w rc_1 (by decide) (by decide), (fun _ => (sz_m hx_1 hx_2 (fq_at hFI_28 hLx hkx (by decide) (by decide) hx_10) (fq_at hFI_28 hLx hkx (by decide) (by decide) hx_12) (fq_at hFI_28 hLx hkx (by decide) (by decide) hx_11) ⟨by omega, by omega, by omega, by omega⟩)), (fq_at hFI_28 hLx hkx (by decide) (by decide) ex_4.2)⟩ dX12_readBracket_29
    · skip
      have r_33 := (⟨(rx_18).1, (eq_rg (h_23) rc_0).2⟩ : Rg 0 0 x_18)
      refine g_aload_n C 0 dX12_readBracket_18 rfl rfl ?_
      refine g_iconst C (v := 1) dX12_readBracket_19 (by decide) ?_
      refine g_callVI C K (c_X12_bad W9 hLx hkx 1 (rg_w rc_1 (by decide) (by decide)) hUI_5) hLx hkx (by decide) rfl v_12_146 rfl ⟨rfl, rfl⟩ ⟨Nat.le_of_ble_eq_true rfl, Nat.le_of_ble_eq_true rfl⟩ (Nat.le_of_ble_eq_true rfl) ⟨Nat.le_of_ble_eq_true rfl, Nat.le_of_ble_eq_true rfl⟩ dX12_readBracket_20 rfl (st := []) (fun x_34 I_35 J_36 h_37 => ?_)
      obtain ⟨hUI_35, hFI_35, hGJ_36, rx_34, fx_34⟩ := h_37
      have hF_38 := fq_tr hF_8 hFI_35 (by decide)
      have hG_39 := fq_tr hG_9 hGJ_36 (by decide)
      exact g_zret (ty := .boolean) (r := x_34) B K rfl (nar_z (rg_w rx_34 (by decide) (by decide))) ⟨hUI_35, hF_38, hG_39, rg_w rx_34 (by decide) (by decide), (fun q => ne_no q rx_34 rc_0), (fq_at hFI_35 hLx hkx (by decide) (by decide) ex_4.2)⟩ dX12_readBracket_23
  · skip
    have r_40 := (⟨(rx_4).1, (eq_rg (h_13) rc_0).2⟩ : Rg 0 0 x_4)
    refine g_iconst C (v := 0) dX12_readBracket_7 (by decide) ?_
    exact g_zret (ty := .boolean) (r := 0) B K rfl (rfl) ⟨hUI_5, hF_8, hG_9, rg_w rc_0 (by decide) (by decide), (fun q => absurd rfl q), ex_4.2⟩ dX12_readBracket_8
set_option maxRecDepth 100000 in
set_option maxHeartbeats 8000000 in
theorem c_X12_readNot_2 {l : Launch} {D : va_G} {cy : Nat → ClassId} {L : List Nat} {κ ln : Nat → Nat} {R : Nat → Nat → Option Nat} {I : Nat → Nat → Int32} {J : Nat → Nat → Int64} {ow : Nat → Nat × Nat} (W9 : ∀ a ∈ L, Shp L κ ln R ow a) {x : Nat} (hLx : x ∈ L) (hkx : κ x = 12) (hU : Iw L κ R ow I) (hn : (I x 47).toInt ≤ 2 * (I x 48).toInt) (hwi : I x 49 = 2) : CtI l yX12_readNot cX12_readNot 1 (some .boolean) { frames := 28, cells := 0, slots := 0, locals := 602 } D cy L κ ln R I J [.ref x] (fun r I2 J2 => Iw L κ R ow I2 ∧ Fq L κ ow [1205, 1206, 1207, 1208, 1209, 1210, 1211, 1213, 1247, 1248, 1249, 1250, 86600] I I2 ∧ Fq L κ ow [1212] J J2 ∧ Rg 0 1 r ∧ (¬ r = 0 → Sz_ x I I2 0) ∧ (I2 x 49 = 2)) := by
  obtain ⟨x_1, hx_1, rx_1⟩ := ex_getw (I := I) (a := x) (j := 47) (lo := 0) (hi := 60) hU.1 hLx (ro_o hkx (by decide)) rfl
  obtain ⟨x_2, hx_2, rx_2⟩ := ex_getw (I := I) (a := x) (j := 48) (lo := 0) (hi := 20) hU.1 hLx (ro_o hkx (by decide)) rfl
  rw [hx_1, hx_2] at hn
  obtain ⟨x_3, hx_3, rx_3⟩ := ex_getw (I := I) (a := x) (j := 50) (lo := 0) (hi := 59) hU.1 hLx (ro_o hkx (by decide)) rfl
  refine CtI.of (by decide +kernel) (Nat.le_of_ble_eq_true rfl) ?_
  intro p e s m below meth c B K
  have C := B.1
  have hF : Fq L κ ow [1205, 1206, 1207, 1208, 1209, 1210, 1211, 1213, 1247, 1248, 1249, 1250, 86600] I I := fq_rf
  have hG : Fq L κ ow [1212] J J := fq_rf
  refine g_lo (is := [0]) (lo2 := [(0, .ref x)]) rfl ?_
  refine g_aload_n C 0 dX12_readNot_0 rfl rfl ?_
  refine g_callVI C K (c_X12_readSaid_2 W9 hLx hkx   hU  (by rw [hx_1, hx_2]; omega) (hwi)) hLx hkx (by decide) rfl v_12_392 rfl ⟨rfl, rfl⟩ ⟨Nat.le_of_ble_eq_true rfl, Nat.le_of_ble_eq_true rfl⟩ (Nat.le_of_ble_eq_true rfl) ⟨Nat.le_of_ble_eq_true rfl, Nat.le_of_ble_eq_true rfl⟩ dX12_readNot_1 rfl (st := []) (fun x_4 I_5 J_6 h_7 => ?_)
  obtain ⟨hUI_5, hFI_5, hGJ_6, rx_4, ex_4⟩ := h_7
  have hF_8 := fq_tr hF hFI_5 (by decide)
  have hG_9 := fq_tr hG hGJ_6 (by decide)
  obtain ⟨x_10, hx_10, rx_10⟩ := ex_getw (I := I_5) (a := x) (j := 47) (lo := 0) (hi := 60) hUI_5.1 hLx (ro_o hkx (by decide)) rfl
  obtain ⟨x_11, hx_11, rx_11⟩ := ex_getw (I := I_5) (a := x) (j := 50) (lo := 0) (hi := 59) hUI_5.1 hLx (ro_o hkx (by decide)) rfl
  obtain ⟨x_12, hx_12, rx_12⟩ := ex_getw (I := I_5) (a := x) (j := 48) (lo := 0) (hi := 20) hUI_5.1 hLx (ro_o hkx (by decide)) rfl
  refine g_if_ne C (tgt := 9) dX12_readNot_4 (by decide) (fun h_13 => ?_) (fun h_13 => ?_)
  · skip
    have n_14 : ¬ x_4 = 0 := h_13
    have r_15 := ne_lo (lo := 1) n_14 rx_4 rc_0 rfl (by decide)
    have f_16 := sz_v hx_1 hx_2 hx_10 hx_12 hx_11 (ex_4.1 n_14)
    refine g_aload_n C 0 dX12_readNot_9 rfl rfl ?_
    refine g_aload_n C 0 dX12_readNot_10 rfl rfl ?_
    refine g_iconst C (v := 1) dX12_readNot_11 (by decide) ?_
    refine g_aload_n C 0 dX12_readNot_12 rfl rfl ?_
    refine g_getI C K hLx hkx f_12_386 (v := x_11) hx_11 dX12_readNot_13 ?_
    refine g_iconst C (v := 0) dX12_readNot_16 (by decide) ?_
    refine g_iconst C (v := 0) dX12_readNot_17 (by decide) ?_
    have r_17 := (show Rg 0 59 x_10 from by have q1 := rx_10; have q2 := rx_12; unfold Rg at *; omega)
    refine g_callVI C K (c_X12_saysOne W9 hLx hkx 1 x_11 0 0 (rg_w rc_1 (by decide) (by decide)) (rx_11) (rg_w rc_0 (by decide) (by decide)) hUI_5  (eq_rg hx_10 (r_17)) (by rw [hx_10]; exact ⟨fun _ => ⟨by have := (rx_11).1; omega, by omega⟩, fun q => absurd q (by decide), fun q => absurd q (by decide)⟩)) hLx hkx (by decide) rfl v_12_389 rfl ⟨rfl, rfl⟩ ⟨Nat.le_of_ble_eq_true rfl, Nat.le_of_ble_eq_true rfl⟩ (Nat.le_of_ble_eq_true rfl) ⟨Nat.le_of_ble_eq_true rfl, Nat.le_of_ble_eq_true rfl⟩ dX12_readNot_18 rfl (st := [.ref x]) (fun x_18 I_19 J_20 h_21 => ?_)
    obtain ⟨hUI_19, hFI_19, hGJ_20, rx_18, ex_18⟩ := h_21
    have hF_22 := fq_tr hF_8 hFI_19 (by decide)
    have hG_23 := fq_tr hG_9 hGJ_20 (by decide)
    obtain ⟨x_24, hx_24, rx_24, tx_24, ux_24⟩ := sa_b (lo := 1) (hi := 60) ex_18 hx_10 r_17 (by decide) (by decide)
    have r_25 := (show Rg 0 59 x_18 from by have q1 := ux_24; have q2 := r_17; unfold Rg at *; omega)
    refine h_putI C K hLx hkx f_12_386 p_12_50 dX12_readNot_21 (fun I_26 hI_26 => ?_)
    have hU_27 := iw_put W9 hUI_19 hI_26 (ro_o hkx (by decide)) (lo := 0) (hi := 59) (rfl) (r_25) rfl
    have hF_28 := fq_puto hF_22 hI_26 hkx (by decide) (by decide)
    refine g_iconst C (v := 1) dX12_readNot_24 (by decide) ?_
    exact g_zret (ty := .boolean) (r := 1) B K rfl (rfl) ⟨hU_27, hF_28, hG_23, rg_w rc_1 (by decide) (by decide), (fun _ => (sz_m hx_1 hx_2 (kp_j hI_26 (by decide) hx_24) (kp_j hI_26 (by decide) (fq_at hFI_19 hLx hkx (by decide) (by decide) hx_12)) (kp_s hI_26) ⟨by have := tx_24; omega, by have := tx_24; omega, by have := tx_24; omega, by have := tx_24; omega⟩)), (kp_j hI_26 (by decide) (fq_at hFI_19 hLx hkx (by decide) (by decide) ex_4.2))⟩ dX12_readNot_25
  · skip
    have r_29 := (⟨(rx_4).1, (eq_rg (h_13) rc_0).2⟩ : Rg 0 0 x_4)
    refine g_iconst C (v := 0) dX12_readNot_7 (by decide) ?_
    exact g_zret (ty := .boolean) (r := 0) B K rfl (rfl) ⟨hUI_5, hF_8, hG_9, rg_w rc_0 (by decide) (by decide), (fun q => absurd rfl q), ex_4.2⟩ dX12_readNot_8
set_option maxRecDepth 100000 in
set_option maxHeartbeats 8000000 in
theorem c_X12_readSaid_1 {l : Launch} {D : va_G} {cy : Nat → ClassId} {L : List Nat} {κ ln : Nat → Nat} {R : Nat → Nat → Option Nat} {I : Nat → Nat → Int32} {J : Nat → Nat → Int64} {ow : Nat → Nat × Nat} (W9 : ∀ a ∈ L, Shp L κ ln R ow a) {x : Nat} (hLx : x ∈ L) (hkx : κ x = 12) (hU : Iw L κ R ow I) (hn : (I x 47).toInt ≤ 2 * (I x 48).toInt) (hwi : I x 49 = 1) : CtI l yX12_readSaid cX12_readSaid 4 (some .boolean) { frames := 31, cells := 0, slots := 0, locals := 664 } D cy L κ ln R I J [.ref x] (fun r I2 J2 => Iw L κ R ow I2 ∧ Fq L κ ow [1205, 1206, 1207, 1208, 1209, 1210, 1211, 1213, 1247, 1248, 1249, 1250, 86600] I I2 ∧ Fq L κ ow [1212] J J2 ∧ Rg 0 1 r ∧ (¬ r = 0 → Sz_ x I I2 1) ∧ (I2 x 49 = 1)) := by
  obtain ⟨x_1, hx_1, rx_1⟩ := ex_getw (I := I) (a := x) (j := 47) (lo := 0) (hi := 60) hU.1 hLx (ro_o hkx (by decide)) rfl
  obtain ⟨x_2, hx_2, rx_2⟩ := ex_getw (I := I) (a := x) (j := 48) (lo := 0) (hi := 20) hU.1 hLx (ro_o hkx (by decide)) rfl
  rw [hx_1, hx_2] at hn
  obtain ⟨x_3, hx_3, rx_3⟩ := ex_getw (I := I) (a := x) (j := 50) (lo := 0) (hi := 59) hU.1 hLx (ro_o hkx (by decide)) rfl
  refine CtI.of (by decide +kernel) (Nat.le_of_ble_eq_true rfl) ?_
  intro p e s m below meth c B K
  have C := B.1
  have hF : Fq L κ ow [1205, 1206, 1207, 1208, 1209, 1210, 1211, 1213, 1247, 1248, 1249, 1250, 86600] I I := fq_rf
  have hG : Fq L κ ow [1212] J J := fq_rf
  refine g_lo (is := [0]) (lo2 := [(0, .ref x)]) rfl ?_
  have j_64 : ∀ (I_4 : Nat → Nat → Int32) (J_5 : Nat → Nat → Int64) (hU_6 : Iw L κ R ow I_4) (hF_7 : Fq L κ ow [1205, 1206, 1207, 1208, 1209, 1210, 1211, 1213, 1247, 1248, 1249, 1250, 86600] I I_4) (hG_8 : Fq L κ ow [1212] J J_5) (v_9 : Int32) (rv_9 : Rg 0 1 v_9) (v_10 : Int32) (rv_10 : Rg 18 28 v_10) (v_11 : Int32) (rv_11 : Rg 0 60 v_11) (v_12 : Int32) (rv_12 : Rg 20 20 v_12) (v_13 : Int32) (rv_13 : Rg 0 59 v_13) (v_14 : Int32) (rv_14 : Rg 0 4 v_14) (q_15 : I_4 x 47 = v_11) (q_16 : I_4 x 48 = v_12) (q_17 : I_4 x 49 = 1) (q_18 : I_4 x 50 = v_13) (q_19 : I_4 x 7 = v_14) (hj_20 : v_11.toInt = x_1.toInt ∧ v_12.toInt = x_2.toInt), WG p l e { frames := 31, cells := 0, slots := 0, locals := 664 } s m ([.ref x] : List Value).toArray below meth c 4 0 0 (MQ below (Qi_ D cy L κ ln R (fun r I2 J2 => Iw L κ R ow I2 ∧ Fq L κ ow [1205, 1206, 1207, 1208, 1209, 1210, 1211, 1213, 1247, 1248, 1249, 1250, 86600] I I2 ∧ Fq L κ ow [1212] J J2 ∧ Rg 0 1 r ∧ (¬ r = 0 → Sz_ x I I2 1) ∧ (I2 x 49 = 1))) ([.ref x] : List Value).toArray s 0 0 (Al_ L)) D cy (Al_ L) s.heap L κ ln R I_4 J_5 64 [(0, .ref x), (1, .int v_9), (2, .int v_10)] [] := by
    intro I_4 J_5 hU_6 hF_7 hG_8 v_9 rv_9 v_10 rv_10 v_11 rv_11 v_12 rv_12 v_13 rv_13 v_14 rv_14 q_15 q_16 q_17 q_18 q_19 hj_20
    refine g_aload_n C 0 dX12_readSaid_64 rfl rfl ?_
    refine g_iconst C (v := 4) dX12_readSaid_65 (by decide) ?_
    refine g_callVI C K (c_X12_bad W9 hLx hkx 4 (rg_w rc_4 (by decide) (by decide)) hU_6) hLx hkx (by decide) rfl v_12_146 rfl ⟨rfl, rfl⟩ ⟨Nat.le_of_ble_eq_true rfl, Nat.le_of_ble_eq_true rfl⟩ (Nat.le_of_ble_eq_true rfl) ⟨Nat.le_of_ble_eq_true rfl, Nat.le_of_ble_eq_true rfl⟩ dX12_readSaid_66 rfl (st := []) (fun x_21 I_22 J_23 h_24 => ?_)
    obtain ⟨hUI_22, hFI_22, hGJ_23, rx_21, fx_21⟩ := h_24
    have hF_25 := fq_tr hF_7 hFI_22 (by decide)
    have hG_26 := fq_tr hG_8 hGJ_23 (by decide)
    exact g_zret (ty := .boolean) (r := x_21) B K rfl (nar_z (rg_w rx_21 (by decide) (by decide))) ⟨hUI_22, hF_25, hG_26, rg_w rx_21 (by decide) (by decide), (fun q => ne_no q rx_21 rc_0), (fq_at hFI_22 hLx hkx (by decide) (by decide) q_17)⟩ dX12_readSaid_69
  have j_46 : ∀ (I_27 : Nat → Nat → Int32) (J_28 : Nat → Nat → Int64) (hU_29 : Iw L κ R ow I_27) (hF_30 : Fq L κ ow [1205, 1206, 1207, 1208, 1209, 1210, 1211, 1213, 1247, 1248, 1249, 1250, 86600] I I_27) (hG_31 : Fq L κ ow [1212] J J_28) (v_32 : Int32) (rv_32 : Rg 0 1 v_32) (v_33 : Int32) (rv_33 : Rg 18 28 v_33) (v_34 : Int32) (rv_34 : Rg 0 60 v_34) (v_35 : Int32) (rv_35 : Rg 0 20 v_35) (v_36 : Int32) (rv_36 : Rg 0 59 v_36) (v_37 : Int32) (rv_37 : Rg 0 4 v_37) (q_38 : I_27 x 47 = v_34) (q_39 : I_27 x 48 = v_35) (q_40 : I_27 x 49 = 1) (q_41 : I_27 x 50 = v_36) (q_42 : I_27 x 7 = v_37) (hj_43 : v_34.toInt = x_1.toInt ∧ v_35.toInt = x_2.toInt), WG p l e { frames := 31, cells := 0, slots := 0, locals := 664 } s m ([.ref x] : List Value).toArray below meth c 4 0 0 (MQ below (Qi_ D cy L κ ln R (fun r I2 J2 => Iw L κ R ow I2 ∧ Fq L κ ow [1205, 1206, 1207, 1208, 1209, 1210, 1211, 1213, 1247, 1248, 1249, 1250, 86600] I I2 ∧ Fq L κ ow [1212] J J2 ∧ Rg 0 1 r ∧ (¬ r = 0 → Sz_ x I I2 1) ∧ (I2 x 49 = 1))) ([.ref x] : List Value).toArray s 0 0 (Al_ L)) D cy (Al_ L) s.heap L κ ln R I_27 J_28 46 [(0, .ref x), (1, .int v_32), (2, .int v_33)] [] := by
    intro I_27 J_28 hU_29 hF_30 hG_31 v_32 rv_32 v_33 rv_33 v_34 rv_34 v_35 rv_35 v_36 rv_36 v_37 rv_37 q_38 q_39 q_40 q_41 q_42 hj_43
    refine g_aload_n C 0 dX12_readSaid_46 rfl rfl ?_
    refine g_getI C K hLx hkx f_12_395 (v := v_35) q_39 dX12_readSaid_47 ?_
    refine g_bipush C (v := 20) dX12_readSaid_50 (by decide) ?_
    refine g_icmp_eq C (tgt := 64) dX12_readSaid_52 (by decide) (fun h_44 => ?_) (fun h_44 => ?_)
    · skip
      have r_45 := (⟨(eq_rg (h_44) rc_20).1, (rv_35).2⟩ : Rg 20 20 v_35)
      refine g_lo (is := [0, 1, 2]) (lo2 := [(0, .ref x), (1, .int v_32), (2, .int v_33)]) rfl ?_
      exact j_64 I_27 J_28 hU_29 hF_30 hG_31 v_32 (rv_32) v_33 (rv_33) v_34 (rv_34) v_35 (r_45) v_36 (rv_36) v_37 (rv_37) q_38 q_39 q_40 q_41 q_42 ⟨by omega, by omega⟩
    · skip
      have n_46 : ¬ v_35 = 20 := h_44
      have r_47 := ne_hi (hi := 19) n_46 rv_35 rc_20 rfl (by decide)
      refine g_aload_n C 0 dX12_readSaid_55 rfl rfl ?_
      refine g_getI C K hLx hkx f_12_398 (v := 1) q_40 dX12_readSaid_56 ?_
      refine g_bipush C (v := 8) dX12_readSaid_59 (by decide) ?_
      refine g_icmp_ne C (tgt := 70) dX12_readSaid_61 (by decide) (fun h_48 => ?_) (fun h_48 => ?_)
      · skip
        refine g_aload_n C 0 dX12_readSaid_70 rfl rfl ?_
        refine g_dup C dX12_readSaid_71 rfl ?_
        refine g_getI C K hLx hkx f_12_395 (v := v_35) q_39 dX12_readSaid_72 ?_
        refine g_iconst C (v := 1) dX12_readSaid_75 (by decide) ?_
        obtain ⟨x_49, hx_49, rx_49, tx_49⟩ := ex_add 1 20 r_47 rc_1 (by decide) (by decide) (by decide) (by decide)
        refine g_iadd C (v := x_49) dX12_readSaid_76 hx_49 ?_
        refine h_putI C K hLx hkx f_12_395 p_12_48 dX12_readSaid_77 (fun I_50 hI_50 => ?_)
        have hU_51 := iw_put W9 hU_29 hI_50 (ro_o hkx (by decide)) (lo := 0) (hi := 20) (rfl) (rg_w rx_49 (by decide) (by decide)) rfl
        have hF_52 := fq_puto hF_30 hI_50 hkx (by decide) (by decide)
        refine g_aload_n C 0 dX12_readSaid_80 rfl rfl ?_
        refine g_dup C dX12_readSaid_81 rfl ?_
        refine g_getI C K hLx hkx f_12_398 (v := 1) (kp_j hI_50 (by decide) q_40) dX12_readSaid_82 ?_
        refine g_iconst C (v := 1) dX12_readSaid_85 (by decide) ?_
        refine g_iadd C (v := 2) dX12_readSaid_86 (by decide) ?_
        refine h_putI C K hLx hkx f_12_398 p_12_49 dX12_readSaid_87 (fun I_53 hI_53 => ?_)
        have hU_54 := iw_put W9 hU_51 hI_53 (ro_o hkx (by decide)) (lo := 0) (hi := 8) (rfl) (rg_w rc_2 (by decide) (by decide)) rfl
        have hF_55 := fq_puto hF_52 hI_53 hkx (by decide) (by decide)
        refine g_aload_n C 0 dX12_readSaid_90 rfl rfl ?_
        refine g_callVV C K (c_X12_go W9 hLx hkx   hU_54) hLx hkx (by decide) rfl v_12_156 rfl ⟨rfl, rfl⟩ ⟨Nat.le_of_ble_eq_true rfl, Nat.le_of_ble_eq_true rfl⟩ (Nat.le_of_ble_eq_true rfl) ⟨Nat.le_of_ble_eq_true rfl, Nat.le_of_ble_eq_true rfl⟩ dX12_readSaid_91 rfl (st := []) (fun I_57 J_58 h_59 => ?_)
        obtain ⟨hUI_57, hFI_57, hGJ_58, fx_56, ex_56⟩ := h_59
        have hF_60 := fq_tr hF_55 hFI_57 (by decide)
        have hG_61 := fq_tr hG_31 hGJ_58 (by decide)
        refine g_iconst C (v := 1) dX12_readSaid_94 (by decide) ?_
        refine g_istore_n C dX12_readSaid_95 rfl (by decide) (lo2 := [(3, .int 1), (0, .ref x), (1, .int v_32), (2, .int v_33)]) rfl ?_
        refine g_iload_n C 2 dX12_readSaid_96 rfl rfl ?_
        refine g_if_eq C (tgt := 108) dX12_readSaid_97 (by decide) (fun h_62 => ?_) (fun h_62 => ?_)
        · skip
          have r_63 := (⟨(rv_32).1, (eq_rg (h_62) rc_0).2⟩ : Rg 0 0 v_32)
          refine g_iload_n C 3 dX12_readSaid_108 rfl rfl ?_
          refine g_bipush C (v := 18) dX12_readSaid_109 (by decide) ?_
          refine g_icmp_ne C (tgt := 122) dX12_readSaid_111 (by decide) (fun h_64 => ?_) (fun h_64 => ?_)
          · skip
            have n_65 : ¬ v_33 = 18 := h_64
            have r_66 := ne_lo (lo := 19) n_65 rv_33 rc_18 rfl (by decide)
            refine g_iload_n C 3 dX12_readSaid_122 rfl rfl ?_
            refine g_bipush C (v := 22) dX12_readSaid_123 (by decide) ?_
            refine g_icmp_ge C (tgt := 146) dX12_readSaid_125 (by decide) (fun h_67 => ?_) (fun h_67 => ?_)
            · skip
              have r_68 := le_r (h_67) rc_22 r_66
              refine g_iload_n C 3 dX12_readSaid_146 rfl rfl ?_
              refine g_bipush C (v := 24) dX12_readSaid_147 (by decide) ?_
              refine g_icmp_ge C (tgt := 160) dX12_readSaid_149 (by decide) (fun h_69 => ?_) (fun h_69 => ?_)
              · skip
                have r_70 := le_r (h_69) rc_24 r_68
                refine g_aload_n C 1 dX12_readSaid_160 rfl rfl ?_
                refine g_iload_n C 3 dX12_readSaid_161 rfl rfl ?_
                refine g_callVI C K (c_X12_readCompare W9 hLx hkx v_33 (r_70) hUI_57  (by rw [(fq_at hFI_57 hLx hkx (by decide) (by decide) (kp_j hI_53 (by decide) (kp_j hI_50 (by decide) q_38))), (fq_at hFI_57 hLx hkx (by decide) (by decide) (kp_j hI_53 (by decide) (kp_s hI_50)))]; have := (ti_k tx_49 rc_1); omega)) hLx hkx (by decide) rfl v_12_410 rfl ⟨rfl, rfl⟩ ⟨Nat.le_of_ble_eq_true rfl, Nat.le_of_ble_eq_true rfl⟩ (Nat.le_of_ble_eq_true rfl) ⟨Nat.le_of_ble_eq_true rfl, Nat.le_of_ble_eq_true rfl⟩ dX12_readSaid_162 rfl (st := []) (fun x_71 I_72 J_73 h_74 => ?_)
                obtain ⟨hUI_72, hFI_72, hGJ_73, rx_71, ex_71⟩ := h_74
                have hF_75 := fq_tr hF_60 hFI_72 (by decide)
                have hG_76 := fq_tr hG_61 hGJ_73 (by decide)
                obtain ⟨x_77, hx_77, rx_77⟩ := ex_getw (I := I_72) (a := x) (j := 47) (lo := 0) (hi := 60) hUI_72.1 hLx (ro_o hkx (by decide)) rfl
                obtain ⟨x_78, hx_78, rx_78⟩ := ex_getw (I := I_72) (a := x) (j := 50) (lo := 0) (hi := 59) hUI_72.1 hLx (ro_o hkx (by decide)) rfl
                refine g_istore_n C dX12_readSaid_165 rfl (by decide) (lo2 := [(3, .int x_71), (0, .ref x), (1, .int v_32), (2, .int v_33)]) rfl ?_
                refine g_aload_n C 1 dX12_readSaid_166 rfl rfl ?_
                refine g_dup C dX12_readSaid_167 rfl ?_
                refine g_getI C K hLx hkx f_12_398 (v := 2) (fq_at hFI_72 hLx hkx (by decide) (by decide) (fq_at hFI_57 hLx hkx (by decide) (by decide) (kp_s hI_53))) dX12_readSaid_168 ?_
                refine g_iconst C (v := 1) dX12_readSaid_171 (by decide) ?_
                refine g_isub C (v := 1) dX12_readSaid_172 (by decide) ?_
                refine h_putI C K hLx hkx f_12_398 p_12_49 dX12_readSaid_173 (fun I_79 hI_79 => ?_)
                have hU_80 := iw_put W9 hUI_72 hI_79 (ro_o hkx (by decide)) (lo := 0) (hi := 8) (rfl) (rg_w rc_1 (by decide) (by decide)) rfl
                have hF_81 := fq_puto hF_75 hI_79 hkx (by decide) (by decide)
                refine g_iload_n C 0 dX12_readSaid_176 rfl rfl ?_
                exact g_zret (ty := .boolean) (r := x_71) B K rfl (nar_z (rx_71)) ⟨hU_80, hF_81, hG_76, rx_71, (fun hq => by have n_82 : ¬ x_71 = 0 := hq; have r_83 := ne_lo (lo := 1) n_82 rx_71 rc_0 rfl (by decide); have f_84 := sl_v (fq_at hFI_57 hLx hkx (by decide) (by decide) (kp_j hI_53 (by decide) (kp_j hI_50 (by decide) q_38))) hx_77 hx_78 (ex_71 n_82); exact (sz_m hx_1 hx_2 (kp_j hI_79 (by decide) hx_77) (kp_j hI_79 (by decide) (fq_at hFI_72 hLx hkx (by decide) (by decide) (fq_at hFI_57 hLx hkx (by decide) (by decide) (kp_j hI_53 (by decide) (kp_s hI_50))))) (kp_j hI_79 (by decide) hx_78) ⟨by have := (ti_k tx_49 rc_1); omega, by have := (ti_k tx_49 rc_1); omega, by have := (ti_k tx_49 rc_1); omega, by have := (ti_k tx_49 rc_1); omega⟩)), (kp_s hI_79)⟩ dX12_readSaid_177
              · skip
                have r_85 := lt_l (hi := 23) (nle h_69) r_68 rc_24 (by decide)
                refine g_aload_n C 1 dX12_readSaid_152 rfl rfl ?_
                refine g_iload_n C 3 dX12_readSaid_153 rfl rfl ?_
                refine g_callVI C K (c_X12_readOf W9 hLx hkx v_33 (r_85) hUI_57  (by rw [(fq_at hFI_57 hLx hkx (by decide) (by decide) (kp_j hI_53 (by decide) (kp_j hI_50 (by decide) q_38))), (fq_at hFI_57 hLx hkx (by decide) (by decide) (kp_j hI_53 (by decide) (kp_s hI_50)))]; have := (ti_k tx_49 rc_1); omega)) hLx hkx (by decide) rfl v_12_407 rfl ⟨rfl, rfl⟩ ⟨Nat.le_of_ble_eq_true rfl, Nat.le_of_ble_eq_true rfl⟩ (Nat.le_of_ble_eq_true rfl) ⟨Nat.le_of_ble_eq_true rfl, Nat.le_of_ble_eq_true rfl⟩ dX12_readSaid_154 rfl (st := []) (fun x_86 I_87 J_88 h_89 => ?_)
                obtain ⟨hUI_87, hFI_87, hGJ_88, rx_86, ex_86⟩ := h_89
                have hF_90 := fq_tr hF_60 hFI_87 (by decide)
                have hG_91 := fq_tr hG_61 hGJ_88 (by decide)
                obtain ⟨x_92, hx_92, rx_92⟩ := ex_getw (I := I_87) (a := x) (j := 47) (lo := 0) (hi := 60) hUI_87.1 hLx (ro_o hkx (by decide)) rfl
                obtain ⟨x_93, hx_93, rx_93⟩ := ex_getw (I := I_87) (a := x) (j := 50) (lo := 0) (hi := 59) hUI_87.1 hLx (ro_o hkx (by decide)) rfl
                refine g_goto C (tgt := 165) dX12_readSaid_157 (by decide) ?_
                refine g_istore_n C dX12_readSaid_165 rfl (by decide) (lo2 := [(3, .int x_86), (0, .ref x), (1, .int v_32), (2, .int v_33)]) rfl ?_
                refine g_aload_n C 1 dX12_readSaid_166 rfl rfl ?_
                refine g_dup C dX12_readSaid_167 rfl ?_
                refine g_getI C K hLx hkx f_12_398 (v := 2) (fq_at hFI_87 hLx hkx (by decide) (by decide) (fq_at hFI_57 hLx hkx (by decide) (by decide) (kp_s hI_53))) dX12_readSaid_168 ?_
                refine g_iconst C (v := 1) dX12_readSaid_171 (by decide) ?_
                refine g_isub C (v := 1) dX12_readSaid_172 (by decide) ?_
                refine h_putI C K hLx hkx f_12_398 p_12_49 dX12_readSaid_173 (fun I_94 hI_94 => ?_)
                have hU_95 := iw_put W9 hUI_87 hI_94 (ro_o hkx (by decide)) (lo := 0) (hi := 8) (rfl) (rg_w rc_1 (by decide) (by decide)) rfl
                have hF_96 := fq_puto hF_90 hI_94 hkx (by decide) (by decide)
                refine g_iload_n C 0 dX12_readSaid_176 rfl rfl ?_
                exact g_zret (ty := .boolean) (r := x_86) B K rfl (nar_z (rx_86)) ⟨hU_95, hF_96, hG_91, rx_86, (fun hq => by have n_97 : ¬ x_86 = 0 := hq; have r_98 := ne_lo (lo := 1) n_97 rx_86 rc_0 rfl (by decide); have f_99 := sl_v (fq_at hFI_57 hLx hkx (by decide) (by decide) (kp_j hI_53 (by decide) (kp_j hI_50 (by decide) q_38))) hx_92 hx_93 (ex_86 n_97); exact (sz_m hx_1 hx_2 (kp_j hI_94 (by decide) hx_92) (kp_j hI_94 (by decide) (fq_at hFI_87 hLx hkx (by decide) (by decide) (fq_at hFI_57 hLx hkx (by decide) (by decide) (kp_j hI_53 (by decide) (kp_s hI_50))))) (kp_j hI_94 (by decide) hx_93) ⟨by have := (ti_k tx_49 rc_1); omega, by have := (ti_k tx_49 rc_1); omega, by have := (ti_k tx_49 rc_1); omega, by have := (ti_k tx_49 rc_1); omega⟩)), (kp_s hI_94)⟩ dX12_readSaid_177
            · skip
              have r_100 := lt_l (hi := 21) (nle h_67) r_66 rc_22 (by decide)
              refine g_aload_n C 1 dX12_readSaid_128 rfl rfl ?_
              refine g_aload_n C 1 dX12_readSaid_129 rfl rfl ?_
              refine g_bipush C (v := 50) dX12_readSaid_130 (by decide) ?_
              refine g_iload_n C 3 dX12_readSaid_132 rfl rfl ?_
              obtain ⟨x_101, hx_101, rx_101, tx_101⟩ := ex_add 69 71 rc_50 r_100 (by decide) (by decide) (by decide) (by decide)
              refine g_iadd C (v := x_101) dX12_readSaid_133 hx_101 ?_
              refine g_iconst C (v := 0) dX12_readSaid_134 (by decide) ?_
              refine g_iconst C (v := 0) dX12_readSaid_135 (by decide) ?_
              refine g_iconst C (v := 0) dX12_readSaid_136 (by decide) ?_
              have r_102 := (show Rg 0 59 v_34 from by have q1 := rv_34; have q2 := rx_49; unfold Rg at *; omega)
              refine g_callVI C K (c_X12_saysOne W9 hLx hkx x_101 0 0 0 (rg_w rx_101 (by decide) (by decide)) (rg_w rc_0 (by decide) (by decide)) (rg_w rc_0 (by decide) (by decide)) hUI_57  (eq_rg (fq_at hFI_57 hLx hkx (by decide) (by decide) (kp_j hI_53 (by decide) (kp_j hI_50 (by decide) q_38))) (r_102)) (by rw [(fq_at hFI_57 hLx hkx (by decide) (by decide) (kp_j hI_53 (by decide) (kp_j hI_50 (by decide) q_38)))]; exact ⟨fun q => by rcases q with q | q | q; exact absurd q (rg_nek rx_101 rc_1 (by decide)); exact absurd q (rg_nek rx_101 rc_2 (by decide)); exact absurd q (rg_nek rx_101 rc_3 (by decide)), fun q => by rcases q with q | q; exact absurd q (rg_nek rx_101 rc_2 (by decide)); exact absurd q (rg_nek rx_101 rc_3 (by decide)), fun q => absurd q (rg_nek rx_101 rc_73 (by decide))⟩)) hLx hkx (by decide) rfl v_12_389 rfl ⟨rfl, rfl⟩ ⟨Nat.le_of_ble_eq_true rfl, Nat.le_of_ble_eq_true rfl⟩ (Nat.le_of_ble_eq_true rfl) ⟨Nat.le_of_ble_eq_true rfl, Nat.le_of_ble_eq_true rfl⟩ dX12_readSaid_137 rfl (st := [.ref x]) (fun x_103 I_104 J_105 h_106 => ?_)
              obtain ⟨hUI_104, hFI_104, hGJ_105, rx_103, ex_103⟩ := h_106
              have hF_107 := fq_tr hF_60 hFI_104 (by decide)
              have hG_108 := fq_tr hG_61 hGJ_105 (by decide)
              obtain ⟨x_109, hx_109, rx_109, tx_109, ux_109⟩ := sa_b (lo := 1) (hi := 60) ex_103 (fq_at hFI_57 hLx hkx (by decide) (by decide) (kp_j hI_53 (by decide) (kp_j hI_50 (by decide) q_38))) r_102 (by decide) (by decide)
              have r_110 := (show Rg 0 59 x_103 from by have q1 := ux_109; have q2 := r_102; unfold Rg at *; omega)
              refine h_putI C K hLx hkx f_12_386 p_12_50 dX12_readSaid_140 (fun I_111 hI_111 => ?_)
              have hU_112 := iw_put W9 hUI_104 hI_111 (ro_o hkx (by decide)) (lo := 0) (hi := 59) (rfl) (r_110) rfl
              have hF_113 := fq_puto hF_107 hI_111 hkx (by decide) (by decide)
              refine g_goto C (tgt := 166) dX12_readSaid_143 (by decide) ?_
              refine g_aload_n C 1 dX12_readSaid_166 rfl rfl ?_
              refine g_dup C dX12_readSaid_167 rfl ?_
              refine g_getI C K hLx hkx f_12_398 (v := 2) (kp_j hI_111 (by decide) (fq_at hFI_104 hLx hkx (by decide) (by decide) (fq_at hFI_57 hLx hkx (by decide) (by decide) (kp_s hI_53)))) dX12_readSaid_168 ?_
              refine g_iconst C (v := 1) dX12_readSaid_171 (by decide) ?_
              refine g_isub C (v := 1) dX12_readSaid_172 (by decide) ?_
              refine h_putI C K hLx hkx f_12_398 p_12_49 dX12_readSaid_173 (fun I_114 hI_114 => ?_)
              have hU_115 := iw_put W9 hU_112 hI_114 (ro_o hkx (by decide)) (lo := 0) (hi := 8) (rfl) (rg_w rc_1 (by decide) (by decide)) rfl
              have hF_116 := fq_puto hF_113 hI_114 hkx (by decide) (by decide)
              refine g_iload_n C 0 dX12_readSaid_176 rfl rfl ?_
              exact g_zret (ty := .boolean) (r := 1) B K rfl (rfl) ⟨hU_115, hF_116, hG_108, rg_w rc_1 (by decide) (by decide), (fun _ => (sz_m hx_1 hx_2 (kp_j hI_114 (by decide) (kp_j hI_111 (by decide) hx_109)) (kp_j hI_114 (by decide) (kp_j hI_111 (by decide) (fq_at hFI_104 hLx hkx (by decide) (by decide) (fq_at hFI_57 hLx hkx (by decide) (by decide) (kp_j hI_53 (by decide) (kp_s hI_50)))))) (kp_j hI_114 (by decide) (kp_s hI_111)) ⟨by have := tx_109; have := (ti_k tx_49 rc_1); omega, by have := tx_109; have := (ti_k tx_49 rc_1); omega, by have := tx_109; have := (ti_k tx_49 rc_1); omega, by have := tx_109; have := (ti_k tx_49 rc_1); omega⟩)), (kp_s hI_114)⟩ dX12_readSaid_177
          · skip
            have r_117 := (⟨(rv_33).1, (eq_rg (h_64) rc_18).2⟩ : Rg 18 18 v_33)
            refine g_aload_n C 1 dX12_readSaid_114 rfl rfl ?_
            refine g_callVI C K (c_X12_readNot_2 W9 hLx hkx   hUI_57  (by rw [(fq_at hFI_57 hLx hkx (by decide) (by decide) (kp_j hI_53 (by decide) (kp_j hI_50 (by decide) q_38))), (fq_at hFI_57 hLx hkx (by decide) (by decide) (kp_j hI_53 (by decide) (kp_s hI_50)))]; have := (ti_k tx_49 rc_1); omega) ((fq_at hFI_57 hLx hkx (by decide) (by decide) (kp_s hI_53)))) hLx hkx (by decide) rfl v_12_404 rfl ⟨rfl, rfl⟩ ⟨Nat.le_of_ble_eq_true rfl, Nat.le_of_ble_eq_true rfl⟩ (Nat.le_of_ble_eq_true rfl) ⟨Nat.le_of_ble_eq_true rfl, Nat.le_of_ble_eq_true rfl⟩ dX12_readSaid_115 rfl (st := []) (fun x_118 I_119 J_120 h_121 => ?_)
            obtain ⟨hUI_119, hFI_119, hGJ_120, rx_118, ex_118⟩ := h_121
            have hF_122 := fq_tr hF_60 hFI_119 (by decide)
            have hG_123 := fq_tr hG_61 hGJ_120 (by decide)
            obtain ⟨x_124, hx_124, rx_124⟩ := ex_getw (I := I_119) (a := x) (j := 47) (lo := 0) (hi := 60) hUI_119.1 hLx (ro_o hkx (by decide)) rfl
            obtain ⟨x_125, hx_125, rx_125⟩ := ex_getw (I := I_119) (a := x) (j := 50) (lo := 0) (hi := 59) hUI_119.1 hLx (ro_o hkx (by decide)) rfl
            obtain ⟨x_126, hx_126, rx_126⟩ := ex_getw (I := I_119) (a := x) (j := 48) (lo := 0) (hi := 20) hUI_119.1 hLx (ro_o hkx (by decide)) rfl
            refine g_istore_n C dX12_readSaid_118 rfl (by decide) (lo2 := [(3, .int x_118), (0, .ref x), (1, .int v_32), (2, .int v_33)]) rfl ?_
            refine g_goto C (tgt := 166) dX12_readSaid_119 (by decide) ?_
            refine g_aload_n C 1 dX12_readSaid_166 rfl rfl ?_
            refine g_dup C dX12_readSaid_167 rfl ?_
            refine g_getI C K hLx hkx f_12_398 (v := 2) ex_118.2 dX12_readSaid_168 ?_
            refine g_iconst C (v := 1) dX12_readSaid_171 (by decide) ?_
            refine g_isub C (v := 1) dX12_readSaid_172 (by decide) ?_
            refine h_putI C K hLx hkx f_12_398 p_12_49 dX12_readSaid_173 (fun I_127 hI_127 => ?_)
            have hU_128 := iw_put W9 hUI_119 hI_127 (ro_o hkx (by decide)) (lo := 0) (hi := 8) (rfl) (rg_w rc_1 (by decide) (by decide)) rfl
            have hF_129 := fq_puto hF_122 hI_127 hkx (by decide) (by decide)
            refine g_iload_n C 0 dX12_readSaid_176 rfl rfl ?_
            exact g_zret (ty := .boolean) (r := x_118) B K rfl (nar_z (rx_118)) ⟨hU_128, hF_129, hG_123, rx_118, (fun hq => by have n_130 : ¬ x_118 = 0 := hq; have r_131 := ne_lo (lo := 1) n_130 rx_118 rc_0 rfl (by decide); have f_132 := sz_v (fq_at hFI_57 hLx hkx (by decide) (by decide) (kp_j hI_53 (by decide) (kp_j hI_50 (by decide) q_38))) (fq_at hFI_57 hLx hkx (by decide) (by decide) (kp_j hI_53 (by decide) (kp_s hI_50))) hx_124 hx_126 hx_125 (ex_118.1 n_130); have f_133 := (ti_k tx_49 rc_1); exact (sz_m hx_1 hx_2 (kp_j hI_127 (by decide) hx_124) (kp_j hI_127 (by decide) hx_126) (kp_j hI_127 (by decide) hx_125) ⟨by omega, by omega, by omega, by omega⟩)), (kp_s hI_127)⟩ dX12_readSaid_177
        · skip
          have n_134 : ¬ v_32 = 0 := h_62
          have r_135 := ne_lo (lo := 1) n_134 rv_32 rc_0 rfl (by decide)
          refine g_aload_n C 1 dX12_readSaid_100 rfl rfl ?_
          refine g_callVI C K (c_X12_readBracket_2 W9 hLx hkx   hUI_57  (by rw [(fq_at hFI_57 hLx hkx (by decide) (by decide) (kp_j hI_53 (by decide) (kp_j hI_50 (by decide) q_38))), (fq_at hFI_57 hLx hkx (by decide) (by decide) (kp_j hI_53 (by decide) (kp_s hI_50)))]; have := (ti_k tx_49 rc_1); omega) ((fq_at hFI_57 hLx hkx (by decide) (by decide) (kp_s hI_53)))) hLx hkx (by decide) rfl v_12_401 rfl ⟨rfl, rfl⟩ ⟨Nat.le_of_ble_eq_true rfl, Nat.le_of_ble_eq_true rfl⟩ (Nat.le_of_ble_eq_true rfl) ⟨Nat.le_of_ble_eq_true rfl, Nat.le_of_ble_eq_true rfl⟩ dX12_readSaid_101 rfl (st := []) (fun x_136 I_137 J_138 h_139 => ?_)
          obtain ⟨hUI_137, hFI_137, hGJ_138, rx_136, ex_136⟩ := h_139
          have hF_140 := fq_tr hF_60 hFI_137 (by decide)
          have hG_141 := fq_tr hG_61 hGJ_138 (by decide)
          obtain ⟨x_142, hx_142, rx_142⟩ := ex_getw (I := I_137) (a := x) (j := 47) (lo := 0) (hi := 60) hUI_137.1 hLx (ro_o hkx (by decide)) rfl
          obtain ⟨x_143, hx_143, rx_143⟩ := ex_getw (I := I_137) (a := x) (j := 50) (lo := 0) (hi := 59) hUI_137.1 hLx (ro_o hkx (by decide)) rfl
          obtain ⟨x_144, hx_144, rx_144⟩ := ex_getw (I := I_137) (a := x) (j := 48) (lo := 0) (hi := 20) hUI_137.1 hLx (ro_o hkx (by decide)) rfl
          refine g_istore_n C dX12_readSaid_104 rfl (by decide) (lo2 := [(3, .int x_136), (0, .ref x), (1, .int v_32), (2, .int v_33)]) rfl ?_
          refine g_goto C (tgt := 166) dX12_readSaid_105 (by decide) ?_
          refine g_aload_n C 1 dX12_readSaid_166 rfl rfl ?_
          refine g_dup C dX12_readSaid_167 rfl ?_
          refine g_getI C K hLx hkx f_12_398 (v := 2) ex_136.2 dX12_readSaid_168 ?_
          refine g_iconst C (v := 1) dX12_readSaid_171 (by decide) ?_
          refine g_isub C (v := 1) dX12_readSaid_172 (by decide) ?_
          refine h_putI C K hLx hkx f_12_398 p_12_49 dX12_readSaid_173 (fun I_145 hI_145 => ?_)
          have hU_146 := iw_put W9 hUI_137 hI_145 (ro_o hkx (by decide)) (lo := 0) (hi := 8) (rfl) (rg_w rc_1 (by decide) (by decide)) rfl
          have hF_147 := fq_puto hF_140 hI_145 hkx (by decide) (by decide)
          refine g_iload_n C 0 dX12_readSaid_176 rfl rfl ?_
          exact g_zret (ty := .boolean) (r := x_136) B K rfl (nar_z (rx_136)) ⟨hU_146, hF_147, hG_141, rx_136, (fun hq => by have n_148 : ¬ x_136 = 0 := hq; have r_149 := ne_lo (lo := 1) n_148 rx_136 rc_0 rfl (by decide); have f_150 := sz_v (fq_at hFI_57 hLx hkx (by decide) (by decide) (kp_j hI_53 (by decide) (kp_j hI_50 (by decide) q_38))) (fq_at hFI_57 hLx hkx (by decide) (by decide) (kp_j hI_53 (by decide) (kp_s hI_50))) hx_142 hx_144 hx_143 (ex_136.1 n_148); have f_151 := (ti_k tx_49 rc_1); exact (sz_m hx_1 hx_2 (kp_j hI_145 (by decide) hx_142) (kp_j hI_145 (by decide) hx_144) (kp_j hI_145 (by decide) hx_143) ⟨by omega, by omega, by omega, by omega⟩)), (kp_s hI_145)⟩ dX12_readSaid_177
      · skip
        exact absurd (h_48) (by decide)
  have j_30 : ∀ (I_152 : Nat → Nat → Int32) (J_153 : Nat → Nat → Int64) (hU_154 : Iw L κ R ow I_152) (hF_155 : Fq L κ ow [1205, 1206, 1207, 1208, 1209, 1210, 1211, 1213, 1247, 1248, 1249, 1250, 86600] I I_152) (hG_156 : Fq L κ ow [1212] J J_153) (v_157 : Int32) (rv_157 : Rg 0 1 v_157) (v_158 : Int32) (rv_158 : Rg 18 28 v_158) (v_159 : Int32) (rv_159 : Rg 0 60 v_159) (v_160 : Int32) (rv_160 : Rg 0 20 v_160) (v_161 : Int32) (rv_161 : Rg 0 59 v_161) (v_162 : Int32) (rv_162 : Rg 0 4 v_162) (q_163 : I_152 x 47 = v_159) (q_164 : I_152 x 48 = v_160) (q_165 : I_152 x 49 = 1) (q_166 : I_152 x 50 = v_161) (q_167 : I_152 x 7 = v_162) (hj_168 : v_159.toInt = x_1.toInt ∧ v_160.toInt = x_2.toInt), WG p l e { frames := 31, cells := 0, slots := 0, locals := 664 } s m ([.ref x] : List Value).toArray below meth c 4 0 0 (MQ below (Qi_ D cy L κ ln R (fun r I2 J2 => Iw L κ R ow I2 ∧ Fq L κ ow [1205, 1206, 1207, 1208, 1209, 1210, 1211, 1213, 1247, 1248, 1249, 1250, 86600] I I2 ∧ Fq L κ ow [1212] J J2 ∧ Rg 0 1 r ∧ (¬ r = 0 → Sz_ x I I2 1) ∧ (I2 x 49 = 1))) ([.ref x] : List Value).toArray s 0 0 (Al_ L)) D cy (Al_ L) s.heap L κ ln R I_152 J_153 30 [(0, .ref x), (1, .int v_157), (2, .int v_158)] [] := by
    intro I_152 J_153 hU_154 hF_155 hG_156 v_157 rv_157 v_158 rv_158 v_159 rv_159 v_160 rv_160 v_161 rv_161 v_162 rv_162 q_163 q_164 q_165 q_166 q_167 hj_168
    refine g_iload_n C 1 dX12_readSaid_30 rfl rfl ?_
    refine g_if_ne C (tgt := 46) dX12_readSaid_31 (by decide) (fun h_169 => ?_) (fun h_169 => ?_)
    · skip
      have n_170 : ¬ v_157 = 0 := h_169
      have r_171 := ne_lo (lo := 1) n_170 rv_157 rc_0 rfl (by decide)
      refine g_lo (is := [0, 1, 2]) (lo2 := [(0, .ref x), (1, .int v_157), (2, .int v_158)]) rfl ?_
      exact j_46 I_152 J_153 hU_154 hF_155 hG_156 v_157 (rg_w r_171 (by decide) (by decide)) v_158 (rv_158) v_159 (rv_159) v_160 (rv_160) v_161 (rv_161) v_162 (rv_162) q_163 q_164 q_165 q_166 q_167 ⟨by omega, by omega⟩
    · skip
      have r_172 := (⟨(rv_157).1, (eq_rg (h_169) rc_0).2⟩ : Rg 0 0 v_157)
      refine g_iload_n C 2 dX12_readSaid_34 rfl rfl ?_
      refine g_bipush C (v := 27) dX12_readSaid_35 (by decide) ?_
      refine g_icmp_le C (tgt := 46) dX12_readSaid_37 (by decide) (fun h_173 => ?_) (fun h_173 => ?_)
      · skip
        have r_174 := le_l (h_173) rv_158 rc_27
        refine g_lo (is := [0, 1, 2]) (lo2 := [(0, .ref x), (1, .int v_157), (2, .int v_158)]) rfl ?_
        exact j_46 I_152 J_153 hU_154 hF_155 hG_156 v_157 (rg_w r_172 (by decide) (by decide)) v_158 (rg_w r_174 (by decide) (by decide)) v_159 (rv_159) v_160 (rv_160) v_161 (rv_161) v_162 (rv_162) q_163 q_164 q_165 q_166 q_167 ⟨by omega, by omega⟩
      · skip
        have r_175 := lt_r (lo := 28) (nle h_173) rc_27 rv_158 (by decide)
        refine g_aload_n C 0 dX12_readSaid_40 rfl rfl ?_
        refine g_iconst C (v := 1) dX12_readSaid_41 (by decide) ?_
        refine g_callVI C K (c_X12_bad W9 hLx hkx 1 (rg_w rc_1 (by decide) (by decide)) hU_154) hLx hkx (by decide) rfl v_12_146 rfl ⟨rfl, rfl⟩ ⟨Nat.le_of_ble_eq_true rfl, Nat.le_of_ble_eq_true rfl⟩ (Nat.le_of_ble_eq_true rfl) ⟨Nat.le_of_ble_eq_true rfl, Nat.le_of_ble_eq_true rfl⟩ dX12_readSaid_42 rfl (st := []) (fun x_176 I_177 J_178 h_179 => ?_)
        obtain ⟨hUI_177, hFI_177, hGJ_178, rx_176, fx_176⟩ := h_179
        have hF_180 := fq_tr hF_155 hFI_177 (by decide)
        have hG_181 := fq_tr hG_156 hGJ_178 (by decide)
        exact g_zret (ty := .boolean) (r := x_176) B K rfl (nar_z (rg_w rx_176 (by decide) (by decide))) ⟨hUI_177, hF_180, hG_181, rg_w rx_176 (by decide) (by decide), (fun q => ne_no q rx_176 rc_0), (fq_at hFI_177 hLx hkx (by decide) (by decide) q_165)⟩ dX12_readSaid_45
  have l_10 : ∀ (n_10 : Nat) (I_182 : Nat → Nat → Int32) (J_183 : Nat → Nat → Int64) (hU_184 : Iw L κ R ow I_182) (hF_185 : Fq L κ ow [1205, 1206, 1207, 1208, 1209, 1210, 1211, 1213, 1247, 1248, 1249, 1250, 86600] I I_182) (hG_186 : Fq L κ ow [1212] J J_183) (v_187 : Int32) (rv_187 : Rg 0 1 v_187) (v_188 : Int32) (rv_188 : Rg 18 28 v_188) (v_189 : Int32) (rv_189 : Rg 0 60 v_189) (v_190 : Int32) (rv_190 : Rg 0 20 v_190) (v_191 : Int32) (rv_191 : Rg 0 59 v_191) (v_192 : Int32) (rv_192 : Rg 0 4 v_192) (q_193 : I_182 x 47 = v_189) (q_194 : I_182 x 48 = v_190) (q_195 : I_182 x 49 = 1) (q_196 : I_182 x 50 = v_191) (q_197 : I_182 x 7 = v_192) (hj_198 : v_189.toInt = x_1.toInt ∧ v_190.toInt = x_2.toInt) (hm_199 : 28 < (v_188 : Int32).toInt + (n_10 : Int)), WG p l e { frames := 31, cells := 0, slots := 0, locals := 664 } s m ([.ref x] : List Value).toArray below meth c 4 0 0 (MQ below (Qi_ D cy L κ ln R (fun r I2 J2 => Iw L κ R ow I2 ∧ Fq L κ ow [1205, 1206, 1207, 1208, 1209, 1210, 1211, 1213, 1247, 1248, 1249, 1250, 86600] I I2 ∧ Fq L κ ow [1212] J J2 ∧ Rg 0 1 r ∧ (¬ r = 0 → Sz_ x I I2 1) ∧ (I2 x 49 = 1))) ([.ref x] : List Value).toArray s 0 0 (Al_ L)) D cy (Al_ L) s.heap L κ ln R I_182 J_183 10 [(0, .ref x), (1, .int v_187), (2, .int v_188)] [] := by
    intro n_10
    induction n_10 with
    | zero =>
      intro I_182 J_183 hU_184 hF_185 hG_186 v_187 rv_187 v_188 rv_188 v_189 rv_189 v_190 rv_190 v_191 rv_191 v_192 rv_192 q_193 q_194 q_195 q_196 q_197 hj_198 hm_199
      exact ms_0 rv_188 hm_199
    | succ n_10 ih_10 =>
      intro I_182 J_183 hU_184 hF_185 hG_186 v_187 rv_187 v_188 rv_188 v_189 rv_189 v_190 rv_190 v_191 rv_191 v_192 rv_192 q_193 q_194 q_195 q_196 q_197 hj_198 hm_199
      refine g_iload_n C 2 dX12_readSaid_10 rfl rfl ?_
      refine g_bipush C (v := 27) dX12_readSaid_11 (by decide) ?_
      refine g_icmp_gt C (tgt := 30) dX12_readSaid_13 (by decide) (fun h_200 => ?_) (fun h_200 => ?_)
      · skip
        have r_201 := lt_r (lo := 28) (h_200) rc_27 rv_188 (by decide)
        refine g_lo (is := [0, 1, 2]) (lo2 := [(0, .ref x), (1, .int v_187), (2, .int v_188)]) rfl ?_
        exact j_30 I_182 J_183 hU_184 hF_185 hG_186 v_187 (rv_187) v_188 (rg_w r_201 (by decide) (by decide)) v_189 (rv_189) v_190 (rv_190) v_191 (rv_191) v_192 (rv_192) q_193 q_194 q_195 q_196 q_197 ⟨by omega, by omega⟩
      · skip
        have r_202 := le_l (nlt h_200) rv_188 rc_27
        refine g_aload_n C 0 dX12_readSaid_16 rfl rfl ?_
        refine g_iload_n C 2 dX12_readSaid_17 rfl rfl ?_
        refine g_callVI C K (c_X12_isWord W9 hLx hkx v_188 (rg_w r_202 (by decide) (by decide)) hU_184) hLx hkx (by decide) rfl v_12_191 rfl ⟨rfl, rfl⟩ ⟨Nat.le_of_ble_eq_true rfl, Nat.le_of_ble_eq_true rfl⟩ (Nat.le_of_ble_eq_true rfl) ⟨Nat.le_of_ble_eq_true rfl, Nat.le_of_ble_eq_true rfl⟩ dX12_readSaid_18 rfl (st := []) (fun x_203 I_204 J_205 h_206 => ?_)
        obtain ⟨rfl, rfl, rx_203, fx_203⟩ := h_206
        refine g_if_ne C (tgt := 30) dX12_readSaid_21 (by decide) (fun h_207 => ?_) (fun h_207 => ?_)
        · skip
          have n_208 : ¬ x_203 = 0 := h_207
          have r_209 := ne_lo (lo := 1) n_208 rx_203 rc_0 rfl (by decide)
          refine g_lo (is := [0, 1, 2]) (lo2 := [(0, .ref x), (1, .int v_187), (2, .int v_188)]) rfl ?_
          exact j_30 I_182 J_183 hU_184 hF_185 hG_186 v_187 (rv_187) v_188 (rg_w r_202 (by decide) (by decide)) v_189 (rv_189) v_190 (rv_190) v_191 (rv_191) v_192 (rv_192) q_193 q_194 q_195 q_196 q_197 ⟨by omega, by omega⟩
        · skip
          have r_210 := (⟨(rx_203).1, (eq_rg (h_207) rc_0).2⟩ : Rg 0 0 x_203)
          obtain ⟨x_211, hx_211, rx_211, tx_211⟩ := ex_add (y := 1) 19 28 r_202 rc_1 (by decide) (by decide) (by decide) (by decide)
          refine g_iinc C dX12_readSaid_24 (k := 2) (v := x_211) rfl hx_211 (by decide) (lo2 := [(2, .int x_211), (0, .ref x), (1, .int v_187)]) rfl ?_
          refine g_goto C (tgt := 10) dX12_readSaid_27 (by decide) ?_
          refine g_lo (is := [1, 2, 0]) (lo2 := [(0, .ref x), (1, .int v_187), (2, .int x_211)]) rfl ?_
          exact ih_10 I_182 J_183 hU_184 hF_185 hG_186 v_187 (rv_187) x_211 (rg_w rx_211 (by decide) (by decide)) v_189 (rv_189) v_190 (rv_190) v_191 (rv_191) v_192 (rv_192) q_193 q_194 q_195 q_196 q_197 ⟨by omega, by omega⟩ (ms_1 hm_199 (ti_k tx_211 rc_1) (by decide))
  refine g_aload_n C 0 dX12_readSaid_0 rfl rfl ?_
  refine g_bipush C (v := 40) dX12_readSaid_1 (by decide) ?_
  obtain ⟨x_212, hx_212, rx_212⟩ := ex_getw (I := I) (a := x) (j := 7) (lo := 0) (hi := 4) hU.1 hLx (ro_o hkx (by decide)) rfl
  refine g_callVI C K (c_X12_isSign W9 hLx hkx 40 (rg_w rc_40 (by decide) (by decide)) hU) hLx hkx (by decide) rfl v_12_159 rfl ⟨rfl, rfl⟩ ⟨Nat.le_of_ble_eq_true rfl, Nat.le_of_ble_eq_true rfl⟩ (Nat.le_of_ble_eq_true rfl) ⟨Nat.le_of_ble_eq_true rfl, Nat.le_of_ble_eq_true rfl⟩ dX12_readSaid_3 rfl (st := []) (fun x_213 I_214 J_215 h_216 => ?_)
  obtain ⟨rfl, rfl, rx_213, fx_213, ex_213⟩ := h_216
  have q_217 := hx_212
  refine g_istore_n C dX12_readSaid_6 rfl (by decide) (lo2 := [(1, .int x_213), (0, .ref x)]) rfl ?_
  refine g_bipush C (v := 18) dX12_readSaid_7 (by decide) ?_
  refine g_istore_n C dX12_readSaid_9 rfl (by decide) (lo2 := [(2, .int 18), (1, .int x_213), (0, .ref x)]) rfl ?_
  refine g_lo (is := [2, 1, 0]) (lo2 := [(0, .ref x), (1, .int x_213), (2, .int 18)]) rfl ?_
  exact l_10 11 I J hU hF hG x_213 (rx_213) 18 (rg_w rc_18 (by decide) (by decide)) x_1 (rx_1) x_2 (rx_2) x_3 (rx_3) x_212 (rx_212) hx_1 hx_2 hwi hx_3 hx_212 ⟨by omega, by omega⟩ (ms_s (a := 18) (b := 28) (N := 11) (rg_w rc_18 (by decide) (by decide)) (by decide))
set_option maxRecDepth 100000 in
set_option maxHeartbeats 8000000 in
theorem c_X12_readAnd_1 {l : Launch} {D : va_G} {cy : Nat → ClassId} {L : List Nat} {κ ln : Nat → Nat} {R : Nat → Nat → Option Nat} {I : Nat → Nat → Int32} {J : Nat → Nat → Int64} {ow : Nat → Nat × Nat} (W9 : ∀ a ∈ L, Shp L κ ln R ow a) {x : Nat} (hLx : x ∈ L) (hkx : κ x = 12) (hU : Iw L κ R ow I) (hn : (I x 47).toInt ≤ 2 * (I x 48).toInt) (hwi : I x 49 = 1) : CtI l yX12_readAnd cX12_readAnd 2 (some .boolean) { frames := 32, cells := 0, slots := 0, locals := 687 } D cy L κ ln R I J [.ref x] (fun r I2 J2 => Iw L κ R ow I2 ∧ Fq L κ ow [1205, 1206, 1207, 1208, 1209, 1210, 1211, 1213, 1247, 1248, 1249, 1250, 86600] I I2 ∧ Fq L κ ow [1212] J J2 ∧ Rg 0 1 r ∧ (¬ r = 0 → Sz_ x I I2 1) ∧ (I2 x 49 = 1)) := by
  obtain ⟨x_1, hx_1, rx_1⟩ := ex_getw (I := I) (a := x) (j := 47) (lo := 0) (hi := 60) hU.1 hLx (ro_o hkx (by decide)) rfl
  obtain ⟨x_2, hx_2, rx_2⟩ := ex_getw (I := I) (a := x) (j := 48) (lo := 0) (hi := 20) hU.1 hLx (ro_o hkx (by decide)) rfl
  rw [hx_1, hx_2] at hn
  obtain ⟨x_3, hx_3, rx_3⟩ := ex_getw (I := I) (a := x) (j := 50) (lo := 0) (hi := 59) hU.1 hLx (ro_o hkx (by decide)) rfl
  refine CtI.of (by decide +kernel) (Nat.le_of_ble_eq_true rfl) ?_
  intro p e s m below meth c B K
  have C := B.1
  have hF : Fq L κ ow [1205, 1206, 1207, 1208, 1209, 1210, 1211, 1213, 1247, 1248, 1249, 1250, 86600] I I := fq_rf
  have hG : Fq L κ ow [1212] J J := fq_rf
  refine g_lo (is := [0]) (lo2 := [(0, .ref x)]) rfl ?_
  have l_14 : ∀ (n_14 : Nat) (I_4 : Nat → Nat → Int32) (J_5 : Nat → Nat → Int64) (hU_6 : Iw L κ R ow I_4) (hF_7 : Fq L κ ow [1205, 1206, 1207, 1208, 1209, 1210, 1211, 1213, 1247, 1248, 1249, 1250, 86600] I I_4) (hG_8 : Fq L κ ow [1212] J J_5) (v_9 : Int32) (rv_9 : Rg 0 59 v_9) (v_10 : Int32) (rv_10 : Rg 0 60 v_10) (v_11 : Int32) (rv_11 : Rg 0 20 v_11) (v_12 : Int32) (rv_12 : Rg 0 59 v_12) (q_13 : I_4 x 47 = v_10) (q_14 : I_4 x 48 = v_11) (q_15 : I_4 x 49 = 1) (q_16 : I_4 x 50 = v_12) (hj_17 : x_1.toInt ≤ v_10.toInt ∧ x_2.toInt + 1 ≤ v_11.toInt ∧ 2 * x_2.toInt - x_1.toInt + 1 ≤ 2 * v_11.toInt - v_10.toInt ∧ v_9.toInt < v_10.toInt) (hm_18 : 20 < v_11.toInt + (n_14 : Int)), WG p l e { frames := 32, cells := 0, slots := 0, locals := 687 } s m ([.ref x] : List Value).toArray below meth c 2 0 0 (MQ below (Qi_ D cy L κ ln R (fun r I2 J2 => Iw L κ R ow I2 ∧ Fq L κ ow [1205, 1206, 1207, 1208, 1209, 1210, 1211, 1213, 1247, 1248, 1249, 1250, 86600] I I2 ∧ Fq L κ ow [1212] J J2 ∧ Rg 0 1 r ∧ (¬ r = 0 → Sz_ x I I2 1) ∧ (I2 x 49 = 1))) ([.ref x] : List Value).toArray s 0 0 (Al_ L)) D cy (Al_ L) s.heap L κ ln R I_4 J_5 14 [(0, .ref x), (1, .int v_9)] [] := by
    intro n_14
    induction n_14 with
    | zero =>
      intro I_4 J_5 hU_6 hF_7 hG_8 v_9 rv_9 v_10 rv_10 v_11 rv_11 v_12 rv_12 q_13 q_14 q_15 q_16 hj_17 hm_18
      exact absurd hm_18 (by have := (rv_11).2; omega)
    | succ n_14 ih_14 =>
      intro I_4 J_5 hU_6 hF_7 hG_8 v_9 rv_9 v_10 rv_10 v_11 rv_11 v_12 rv_12 q_13 q_14 q_15 q_16 hj_17 hm_18
      refine g_aload_n C 0 dX12_readAnd_14 rfl rfl ?_
      refine g_bipush C (v := 17) dX12_readAnd_15 (by decide) ?_
      refine g_callVI C K (c_X12_isWord W9 hLx hkx 17 (rg_w rc_17 (by decide) (by decide)) hU_6) hLx hkx (by decide) rfl v_12_191 rfl ⟨rfl, rfl⟩ ⟨Nat.le_of_ble_eq_true rfl, Nat.le_of_ble_eq_true rfl⟩ (Nat.le_of_ble_eq_true rfl) ⟨Nat.le_of_ble_eq_true rfl, Nat.le_of_ble_eq_true rfl⟩ dX12_readAnd_17 rfl (st := []) (fun x_19 I_20 J_21 h_22 => ?_)
      obtain ⟨rfl, rfl, rx_19, fx_19⟩ := h_22
      refine g_if_eq C (tgt := 51) dX12_readAnd_20 (by decide) (fun h_23 => ?_) (fun h_23 => ?_)
      · skip
        have r_24 := (⟨(rx_19).1, (eq_rg (h_23) rc_0).2⟩ : Rg 0 0 x_19)
        refine g_aload_n C 0 dX12_readAnd_51 rfl rfl ?_
        refine g_iload_n C 1 dX12_readAnd_52 rfl rfl ?_
        refine h_putI C K hLx hkx f_12_386 p_12_50 dX12_readAnd_53 (fun I_25 hI_25 => ?_)
        have hU_26 := iw_put W9 hU_6 hI_25 (ro_o hkx (by decide)) (lo := 0) (hi := 59) (rfl) (rv_9) rfl
        have hF_27 := fq_puto hF_7 hI_25 hkx (by decide) (by decide)
        refine g_iconst C (v := 1) dX12_readAnd_56 (by decide) ?_
        exact g_zret (ty := .boolean) (r := 1) B K rfl (rfl) ⟨hU_26, hF_27, hG_8, rg_w rc_1 (by decide) (by decide), (fun _ => (sz_m hx_1 hx_2 (kp_j hI_25 (by decide) q_13) (kp_j hI_25 (by decide) q_14) (kp_s hI_25) ⟨by omega, by omega, by omega, by omega⟩)), (kp_j hI_25 (by decide) q_15)⟩ dX12_readAnd_57
      · skip
        have n_28 : ¬ x_19 = 0 := h_23
        have r_29 := ne_lo (lo := 1) n_28 rx_19 rc_0 rfl (by decide)
        refine g_aload_n C 0 dX12_readAnd_23 rfl rfl ?_
        refine g_callVV C K (c_X12_go W9 hLx hkx   hU_6) hLx hkx (by decide) rfl v_12_156 rfl ⟨rfl, rfl⟩ ⟨Nat.le_of_ble_eq_true rfl, Nat.le_of_ble_eq_true rfl⟩ (Nat.le_of_ble_eq_true rfl) ⟨Nat.le_of_ble_eq_true rfl, Nat.le_of_ble_eq_true rfl⟩ dX12_readAnd_24 rfl (st := []) (fun I_31 J_32 h_33 => ?_)
        obtain ⟨hUI_31, hFI_31, hGJ_32, fx_30, ex_30⟩ := h_33
        have hF_34 := fq_tr hF_7 hFI_31 (by decide)
        have hG_35 := fq_tr hG_8 hGJ_32 (by decide)
        refine g_aload_n C 0 dX12_readAnd_27 rfl rfl ?_
        refine g_callVI C K (c_X12_readSaid_1 W9 hLx hkx   hUI_31  (by rw [(fq_at hFI_31 hLx hkx (by decide) (by decide) q_13), (fq_at hFI_31 hLx hkx (by decide) (by decide) q_14)]; omega) ((fq_at hFI_31 hLx hkx (by decide) (by decide) q_15))) hLx hkx (by decide) rfl v_12_392 rfl ⟨rfl, rfl⟩ ⟨Nat.le_of_ble_eq_true rfl, Nat.le_of_ble_eq_true rfl⟩ (Nat.le_of_ble_eq_true rfl) ⟨Nat.le_of_ble_eq_true rfl, Nat.le_of_ble_eq_true rfl⟩ dX12_readAnd_28 rfl (st := []) (fun x_36 I_37 J_38 h_39 => ?_)
        obtain ⟨hUI_37, hFI_37, hGJ_38, rx_36, ex_36⟩ := h_39
        have hF_40 := fq_tr hF_34 hFI_37 (by decide)
        have hG_41 := fq_tr hG_35 hGJ_38 (by decide)
        obtain ⟨x_42, hx_42, rx_42⟩ := ex_getw (I := I_37) (a := x) (j := 47) (lo := 0) (hi := 60) hUI_37.1 hLx (ro_o hkx (by decide)) rfl
        obtain ⟨x_43, hx_43, rx_43⟩ := ex_getw (I := I_37) (a := x) (j := 50) (lo := 0) (hi := 59) hUI_37.1 hLx (ro_o hkx (by decide)) rfl
        obtain ⟨x_44, hx_44, rx_44⟩ := ex_getw (I := I_37) (a := x) (j := 48) (lo := 0) (hi := 20) hUI_37.1 hLx (ro_o hkx (by decide)) rfl
        refine g_if_ne C (tgt := 36) dX12_readAnd_31 (by decide) (fun h_45 => ?_) (fun h_45 => ?_)
        · skip
          have n_46 : ¬ x_36 = 0 := h_45
          have r_47 := ne_lo (lo := 1) n_46 rx_36 rc_0 rfl (by decide)
          have f_48 := sz_v (fq_at hFI_31 hLx hkx (by decide) (by decide) q_13) (fq_at hFI_31 hLx hkx (by decide) (by decide) q_14) hx_42 hx_44 hx_43 (ex_36.1 n_46)
          refine g_aload_n C 0 dX12_readAnd_36 rfl rfl ?_
          refine g_iconst C (v := 2) dX12_readAnd_37 (by decide) ?_
          refine g_iload_n C 1 dX12_readAnd_38 rfl rfl ?_
          refine g_aload_n C 0 dX12_readAnd_39 rfl rfl ?_
          refine g_getI C K hLx hkx f_12_386 (v := x_43) hx_43 dX12_readAnd_40 ?_
          refine g_iconst C (v := 0) dX12_readAnd_43 (by decide) ?_
          have r_49 := (show Rg 0 59 x_42 from by have q1 := rx_42; have q2 := rx_44; unfold Rg at *; omega)
          refine g_callVI C K (c_X12_saysOne W9 hLx hkx 2 v_9 x_43 0 (rg_w rc_2 (by decide) (by decide)) (rv_9) (rg_w rx_43 (by decide) (by decide)) hUI_37  (eq_rg hx_42 (r_49)) (by rw [hx_42]; exact ⟨fun _ => ⟨by have := (rv_9).1; omega, by omega⟩, fun _ => ⟨by have := (rx_43).1; omega, by omega⟩, fun q => absurd q (by decide)⟩)) hLx hkx (by decide) rfl v_12_389 rfl ⟨rfl, rfl⟩ ⟨Nat.le_of_ble_eq_true rfl, Nat.le_of_ble_eq_true rfl⟩ (Nat.le_of_ble_eq_true rfl) ⟨Nat.le_of_ble_eq_true rfl, Nat.le_of_ble_eq_true rfl⟩ dX12_readAnd_44 rfl (st := []) (fun x_50 I_51 J_52 h_53 => ?_)
          obtain ⟨hUI_51, hFI_51, hGJ_52, rx_50, ex_50⟩ := h_53
          have hF_54 := fq_tr hF_40 hFI_51 (by decide)
          have hG_55 := fq_tr hG_41 hGJ_52 (by decide)
          obtain ⟨x_56, hx_56, rx_56, tx_56, ux_56⟩ := sa_b (lo := 1) (hi := 60) ex_50 hx_42 r_49 (by decide) (by decide)
          have r_57 := (show Rg 0 59 x_50 from by have q1 := ux_56; have q2 := r_49; unfold Rg at *; omega)
          refine g_istore_n C dX12_readAnd_47 rfl (by decide) (lo2 := [(1, .int x_50), (0, .ref x)]) rfl ?_
          refine g_goto C (tgt := 14) dX12_readAnd_48 (by decide) ?_
          refine g_lo (is := [1, 0]) (lo2 := [(0, .ref x), (1, .int x_50)]) rfl ?_
          exact ih_14 I_51 J_52 hUI_51 hF_54 hG_55 x_50 (r_57) x_56 (rg_w rx_56 (by decide) (by decide)) x_44 (rx_44) x_43 (rx_43) hx_56 (fq_at hFI_51 hLx hkx (by decide) (by decide) hx_44) (fq_at hFI_51 hLx hkx (by decide) (by decide) ex_36.2) (fq_at hFI_51 hLx hkx (by decide) (by decide) hx_43) ⟨by have := tx_56; omega, by have := tx_56; omega, by have := tx_56; omega, by have := tx_56; omega⟩ (by have q9 := hm_18; have := tx_56; omega)
        · skip
          have r_58 := (⟨(rx_36).1, (eq_rg (h_45) rc_0).2⟩ : Rg 0 0 x_36)
          refine g_iconst C (v := 0) dX12_readAnd_34 (by decide) ?_
          exact g_zret (ty := .boolean) (r := 0) B K rfl (rfl) ⟨hUI_37, hF_40, hG_41, rg_w rc_0 (by decide) (by decide), (fun q => absurd rfl q), ex_36.2⟩ dX12_readAnd_35
  refine g_aload_n C 0 dX12_readAnd_0 rfl rfl ?_
  refine g_callVI C K (c_X12_readSaid_1 W9 hLx hkx   hU  (by rw [hx_1, hx_2]; omega) (hwi)) hLx hkx (by decide) rfl v_12_392 rfl ⟨rfl, rfl⟩ ⟨Nat.le_of_ble_eq_true rfl, Nat.le_of_ble_eq_true rfl⟩ (Nat.le_of_ble_eq_true rfl) ⟨Nat.le_of_ble_eq_true rfl, Nat.le_of_ble_eq_true rfl⟩ dX12_readAnd_1 rfl (st := []) (fun x_59 I_60 J_61 h_62 => ?_)
  obtain ⟨hUI_60, hFI_60, hGJ_61, rx_59, ex_59⟩ := h_62
  have hF_63 := fq_tr hF hFI_60 (by decide)
  have hG_64 := fq_tr hG hGJ_61 (by decide)
  obtain ⟨x_65, hx_65, rx_65⟩ := ex_getw (I := I_60) (a := x) (j := 47) (lo := 0) (hi := 60) hUI_60.1 hLx (ro_o hkx (by decide)) rfl
  obtain ⟨x_66, hx_66, rx_66⟩ := ex_getw (I := I_60) (a := x) (j := 50) (lo := 0) (hi := 59) hUI_60.1 hLx (ro_o hkx (by decide)) rfl
  obtain ⟨x_67, hx_67, rx_67⟩ := ex_getw (I := I_60) (a := x) (j := 48) (lo := 0) (hi := 20) hUI_60.1 hLx (ro_o hkx (by decide)) rfl
  refine g_if_ne C (tgt := 9) dX12_readAnd_4 (by decide) (fun h_68 => ?_) (fun h_68 => ?_)
  · skip
    have n_69 : ¬ x_59 = 0 := h_68
    have r_70 := ne_lo (lo := 1) n_69 rx_59 rc_0 rfl (by decide)
    have f_71 := sz_v hx_1 hx_2 hx_65 hx_67 hx_66 (ex_59.1 n_69)
    refine g_aload_n C 0 dX12_readAnd_9 rfl rfl ?_
    refine g_getI C K hLx hkx f_12_386 (v := x_66) hx_66 dX12_readAnd_10 ?_
    refine g_istore_n C dX12_readAnd_13 rfl (by decide) (lo2 := [(1, .int x_66), (0, .ref x)]) rfl ?_
    refine g_lo (is := [1, 0]) (lo2 := [(0, .ref x), (1, .int x_66)]) rfl ?_
    exact l_14 21 I_60 J_61 hUI_60 hF_63 hG_64 x_66 (rx_66) x_65 (rx_65) x_67 (rx_67) x_66 (rx_66) hx_65 hx_67 ex_59.2 hx_66 ⟨by omega, by omega, by omega, by omega⟩ (by have := (rx_67).1; omega)
  · skip
    have r_72 := (⟨(rx_59).1, (eq_rg (h_68) rc_0).2⟩ : Rg 0 0 x_59)
    refine g_iconst C (v := 0) dX12_readAnd_7 (by decide) ?_
    exact g_zret (ty := .boolean) (r := 0) B K rfl (rfl) ⟨hUI_60, hF_63, hG_64, rg_w rc_0 (by decide) (by decide), (fun q => absurd rfl q), ex_59.2⟩ dX12_readAnd_8
set_option maxRecDepth 100000 in
set_option maxHeartbeats 8000000 in
theorem c_X12_readOr_1 {l : Launch} {D : va_G} {cy : Nat → ClassId} {L : List Nat} {κ ln : Nat → Nat} {R : Nat → Nat → Option Nat} {I : Nat → Nat → Int32} {J : Nat → Nat → Int64} {ow : Nat → Nat × Nat} (W9 : ∀ a ∈ L, Shp L κ ln R ow a) {x : Nat} (hLx : x ∈ L) (hkx : κ x = 12) (hU : Iw L κ R ow I) (hn : (I x 47).toInt ≤ 2 * (I x 48).toInt) (hwi : I x 49 = 1) : CtI l yX12_readOr cX12_readOr 2 (some .boolean) { frames := 33, cells := 0, slots := 0, locals := 708 } D cy L κ ln R I J [.ref x] (fun r I2 J2 => Iw L κ R ow I2 ∧ Fq L κ ow [1205, 1206, 1207, 1208, 1209, 1210, 1211, 1213, 1247, 1248, 1249, 1250, 86600] I I2 ∧ Fq L κ ow [1212] J J2 ∧ Rg 0 1 r ∧ (¬ r = 0 → Sz_ x I I2 1) ∧ (I2 x 49 = 1)) := by
  obtain ⟨x_1, hx_1, rx_1⟩ := ex_getw (I := I) (a := x) (j := 47) (lo := 0) (hi := 60) hU.1 hLx (ro_o hkx (by decide)) rfl
  obtain ⟨x_2, hx_2, rx_2⟩ := ex_getw (I := I) (a := x) (j := 48) (lo := 0) (hi := 20) hU.1 hLx (ro_o hkx (by decide)) rfl
  rw [hx_1, hx_2] at hn
  obtain ⟨x_3, hx_3, rx_3⟩ := ex_getw (I := I) (a := x) (j := 50) (lo := 0) (hi := 59) hU.1 hLx (ro_o hkx (by decide)) rfl
  refine CtI.of (by decide +kernel) (Nat.le_of_ble_eq_true rfl) ?_
  intro p e s m below meth c B K
  have C := B.1
  have hF : Fq L κ ow [1205, 1206, 1207, 1208, 1209, 1210, 1211, 1213, 1247, 1248, 1249, 1250, 86600] I I := fq_rf
  have hG : Fq L κ ow [1212] J J := fq_rf
  refine g_lo (is := [0]) (lo2 := [(0, .ref x)]) rfl ?_
  have l_14 : ∀ (n_14 : Nat) (I_4 : Nat → Nat → Int32) (J_5 : Nat → Nat → Int64) (hU_6 : Iw L κ R ow I_4) (hF_7 : Fq L κ ow [1205, 1206, 1207, 1208, 1209, 1210, 1211, 1213, 1247, 1248, 1249, 1250, 86600] I I_4) (hG_8 : Fq L κ ow [1212] J J_5) (v_9 : Int32) (rv_9 : Rg 0 59 v_9) (v_10 : Int32) (rv_10 : Rg 0 60 v_10) (v_11 : Int32) (rv_11 : Rg 0 20 v_11) (v_12 : Int32) (rv_12 : Rg 0 59 v_12) (q_13 : I_4 x 47 = v_10) (q_14 : I_4 x 48 = v_11) (q_15 : I_4 x 49 = 1) (q_16 : I_4 x 50 = v_12) (hj_17 : x_1.toInt ≤ v_10.toInt ∧ x_2.toInt + 1 ≤ v_11.toInt ∧ 2 * x_2.toInt - x_1.toInt + 1 ≤ 2 * v_11.toInt - v_10.toInt ∧ v_9.toInt < v_10.toInt) (hm_18 : 20 < v_11.toInt + (n_14 : Int)), WG p l e { frames := 33, cells := 0, slots := 0, locals := 708 } s m ([.ref x] : List Value).toArray below meth c 2 0 0 (MQ below (Qi_ D cy L κ ln R (fun r I2 J2 => Iw L κ R ow I2 ∧ Fq L κ ow [1205, 1206, 1207, 1208, 1209, 1210, 1211, 1213, 1247, 1248, 1249, 1250, 86600] I I2 ∧ Fq L κ ow [1212] J J2 ∧ Rg 0 1 r ∧ (¬ r = 0 → Sz_ x I I2 1) ∧ (I2 x 49 = 1))) ([.ref x] : List Value).toArray s 0 0 (Al_ L)) D cy (Al_ L) s.heap L κ ln R I_4 J_5 14 [(0, .ref x), (1, .int v_9)] [] := by
    intro n_14
    induction n_14 with
    | zero =>
      intro I_4 J_5 hU_6 hF_7 hG_8 v_9 rv_9 v_10 rv_10 v_11 rv_11 v_12 rv_12 q_13 q_14 q_15 q_16 hj_17 hm_18
      exact absurd hm_18 (by have := (rv_11).2; omega)
    | succ n_14 ih_14 =>
      intro I_4 J_5 hU_6 hF_7 hG_8 v_9 rv_9 v_10 rv_10 v_11 rv_11 v_12 rv_12 q_13 q_14 q_15 q_16 hj_17 hm_18
      refine g_aload_n C 0 dX12_readOr_14 rfl rfl ?_
      refine g_bipush C (v := 16) dX12_readOr_15 (by decide) ?_
      refine g_callVI C K (c_X12_isWord W9 hLx hkx 16 (rg_w rc_16 (by decide) (by decide)) hU_6) hLx hkx (by decide) rfl v_12_191 rfl ⟨rfl, rfl⟩ ⟨Nat.le_of_ble_eq_true rfl, Nat.le_of_ble_eq_true rfl⟩ (Nat.le_of_ble_eq_true rfl) ⟨Nat.le_of_ble_eq_true rfl, Nat.le_of_ble_eq_true rfl⟩ dX12_readOr_17 rfl (st := []) (fun x_19 I_20 J_21 h_22 => ?_)
      obtain ⟨rfl, rfl, rx_19, fx_19⟩ := h_22
      refine g_if_eq C (tgt := 51) dX12_readOr_20 (by decide) (fun h_23 => ?_) (fun h_23 => ?_)
      · skip
        have r_24 := (⟨(rx_19).1, (eq_rg (h_23) rc_0).2⟩ : Rg 0 0 x_19)
        refine g_aload_n C 0 dX12_readOr_51 rfl rfl ?_
        refine g_iload_n C 1 dX12_readOr_52 rfl rfl ?_
        refine h_putI C K hLx hkx f_12_386 p_12_50 dX12_readOr_53 (fun I_25 hI_25 => ?_)
        have hU_26 := iw_put W9 hU_6 hI_25 (ro_o hkx (by decide)) (lo := 0) (hi := 59) (rfl) (rv_9) rfl
        have hF_27 := fq_puto hF_7 hI_25 hkx (by decide) (by decide)
        refine g_iconst C (v := 1) dX12_readOr_56 (by decide) ?_
        exact g_zret (ty := .boolean) (r := 1) B K rfl (rfl) ⟨hU_26, hF_27, hG_8, rg_w rc_1 (by decide) (by decide), (fun _ => (sz_m hx_1 hx_2 (kp_j hI_25 (by decide) q_13) (kp_j hI_25 (by decide) q_14) (kp_s hI_25) ⟨by omega, by omega, by omega, by omega⟩)), (kp_j hI_25 (by decide) q_15)⟩ dX12_readOr_57
      · skip
        have n_28 : ¬ x_19 = 0 := h_23
        have r_29 := ne_lo (lo := 1) n_28 rx_19 rc_0 rfl (by decide)
        refine g_aload_n C 0 dX12_readOr_23 rfl rfl ?_
        refine g_callVV C K (c_X12_go W9 hLx hkx   hU_6) hLx hkx (by decide) rfl v_12_156 rfl ⟨rfl, rfl⟩ ⟨Nat.le_of_ble_eq_true rfl, Nat.le_of_ble_eq_true rfl⟩ (Nat.le_of_ble_eq_true rfl) ⟨Nat.le_of_ble_eq_true rfl, Nat.le_of_ble_eq_true rfl⟩ dX12_readOr_24 rfl (st := []) (fun I_31 J_32 h_33 => ?_)
        obtain ⟨hUI_31, hFI_31, hGJ_32, fx_30, ex_30⟩ := h_33
        have hF_34 := fq_tr hF_7 hFI_31 (by decide)
        have hG_35 := fq_tr hG_8 hGJ_32 (by decide)
        refine g_aload_n C 0 dX12_readOr_27 rfl rfl ?_
        refine g_callVI C K (c_X12_readAnd_1 W9 hLx hkx   hUI_31  (by rw [(fq_at hFI_31 hLx hkx (by decide) (by decide) q_13), (fq_at hFI_31 hLx hkx (by decide) (by decide) q_14)]; omega) ((fq_at hFI_31 hLx hkx (by decide) (by decide) q_15))) hLx hkx (by decide) rfl v_12_383 rfl ⟨rfl, rfl⟩ ⟨Nat.le_of_ble_eq_true rfl, Nat.le_of_ble_eq_true rfl⟩ (Nat.le_of_ble_eq_true rfl) ⟨Nat.le_of_ble_eq_true rfl, Nat.le_of_ble_eq_true rfl⟩ dX12_readOr_28 rfl (st := []) (fun x_36 I_37 J_38 h_39 => ?_)
        obtain ⟨hUI_37, hFI_37, hGJ_38, rx_36, ex_36⟩ := h_39
        have hF_40 := fq_tr hF_34 hFI_37 (by decide)
        have hG_41 := fq_tr hG_35 hGJ_38 (by decide)
        obtain ⟨x_42, hx_42, rx_42⟩ := ex_getw (I := I_37) (a := x) (j := 47) (lo := 0) (hi := 60) hUI_37.1 hLx (ro_o hkx (by decide)) rfl
        obtain ⟨x_43, hx_43, rx_43⟩ := ex_getw (I := I_37) (a := x) (j := 50) (lo := 0) (hi := 59) hUI_37.1 hLx (ro_o hkx (by decide)) rfl
        obtain ⟨x_44, hx_44, rx_44⟩ := ex_getw (I := I_37) (a := x) (j := 48) (lo := 0) (hi := 20) hUI_37.1 hLx (ro_o hkx (by decide)) rfl
        refine g_if_ne C (tgt := 36) dX12_readOr_31 (by decide) (fun h_45 => ?_) (fun h_45 => ?_)
        · skip
          have n_46 : ¬ x_36 = 0 := h_45
          have r_47 := ne_lo (lo := 1) n_46 rx_36 rc_0 rfl (by decide)
          have f_48 := sz_v (fq_at hFI_31 hLx hkx (by decide) (by decide) q_13) (fq_at hFI_31 hLx hkx (by decide) (by decide) q_14) hx_42 hx_44 hx_43 (ex_36.1 n_46)
          refine g_aload_n C 0 dX12_readOr_36 rfl rfl ?_
          refine g_iconst C (v := 3) dX12_readOr_37 (by decide) ?_
          refine g_iload_n C 1 dX12_readOr_38 rfl rfl ?_
          refine g_aload_n C 0 dX12_readOr_39 rfl rfl ?_
          refine g_getI C K hLx hkx f_12_386 (v := x_43) hx_43 dX12_readOr_40 ?_
          refine g_iconst C (v := 0) dX12_readOr_43 (by decide) ?_
          have r_49 := (show Rg 0 59 x_42 from by have q1 := rx_42; have q2 := rx_44; unfold Rg at *; omega)
          refine g_callVI C K (c_X12_saysOne W9 hLx hkx 3 v_9 x_43 0 (rg_w rc_3 (by decide) (by decide)) (rv_9) (rg_w rx_43 (by decide) (by decide)) hUI_37  (eq_rg hx_42 (r_49)) (by rw [hx_42]; exact ⟨fun _ => ⟨by have := (rv_9).1; omega, by omega⟩, fun _ => ⟨by have := (rx_43).1; omega, by omega⟩, fun q => absurd q (by decide)⟩)) hLx hkx (by decide) rfl v_12_389 rfl ⟨rfl, rfl⟩ ⟨Nat.le_of_ble_eq_true rfl, Nat.le_of_ble_eq_true rfl⟩ (Nat.le_of_ble_eq_true rfl) ⟨Nat.le_of_ble_eq_true rfl, Nat.le_of_ble_eq_true rfl⟩ dX12_readOr_44 rfl (st := []) (fun x_50 I_51 J_52 h_53 => ?_)
          obtain ⟨hUI_51, hFI_51, hGJ_52, rx_50, ex_50⟩ := h_53
          have hF_54 := fq_tr hF_40 hFI_51 (by decide)
          have hG_55 := fq_tr hG_41 hGJ_52 (by decide)
          obtain ⟨x_56, hx_56, rx_56, tx_56, ux_56⟩ := sa_b (lo := 1) (hi := 60) ex_50 hx_42 r_49 (by decide) (by decide)
          have r_57 := (show Rg 0 59 x_50 from by have q1 := ux_56; have q2 := r_49; unfold Rg at *; omega)
          refine g_istore_n C dX12_readOr_47 rfl (by decide) (lo2 := [(1, .int x_50), (0, .ref x)]) rfl ?_
          refine g_goto C (tgt := 14) dX12_readOr_48 (by decide) ?_
          refine g_lo (is := [1, 0]) (lo2 := [(0, .ref x), (1, .int x_50)]) rfl ?_
          exact ih_14 I_51 J_52 hUI_51 hF_54 hG_55 x_50 (r_57) x_56 (rg_w rx_56 (by decide) (by decide)) x_44 (rx_44) x_43 (rx_43) hx_56 (fq_at hFI_51 hLx hkx (by decide) (by decide) hx_44) (fq_at hFI_51 hLx hkx (by decide) (by decide) ex_36.2) (fq_at hFI_51 hLx hkx (by decide) (by decide) hx_43) ⟨by have := tx_56; omega, by have := tx_56; omega, by have := tx_56; omega, by have := tx_56; omega⟩ (by have q9 := hm_18; have := tx_56; omega)
        · skip
          have r_58 := (⟨(rx_36).1, (eq_rg (h_45) rc_0).2⟩ : Rg 0 0 x_36)
          refine g_iconst C (v := 0) dX12_readOr_34 (by decide) ?_
          exact g_zret (ty := .boolean) (r := 0) B K rfl (rfl) ⟨hUI_37, hF_40, hG_41, rg_w rc_0 (by decide) (by decide), (fun q => absurd rfl q), ex_36.2⟩ dX12_readOr_35
  refine g_aload_n C 0 dX12_readOr_0 rfl rfl ?_
  refine g_callVI C K (c_X12_readAnd_1 W9 hLx hkx   hU  (by rw [hx_1, hx_2]; omega) (hwi)) hLx hkx (by decide) rfl v_12_383 rfl ⟨rfl, rfl⟩ ⟨Nat.le_of_ble_eq_true rfl, Nat.le_of_ble_eq_true rfl⟩ (Nat.le_of_ble_eq_true rfl) ⟨Nat.le_of_ble_eq_true rfl, Nat.le_of_ble_eq_true rfl⟩ dX12_readOr_1 rfl (st := []) (fun x_59 I_60 J_61 h_62 => ?_)
  obtain ⟨hUI_60, hFI_60, hGJ_61, rx_59, ex_59⟩ := h_62
  have hF_63 := fq_tr hF hFI_60 (by decide)
  have hG_64 := fq_tr hG hGJ_61 (by decide)
  obtain ⟨x_65, hx_65, rx_65⟩ := ex_getw (I := I_60) (a := x) (j := 47) (lo := 0) (hi := 60) hUI_60.1 hLx (ro_o hkx (by decide)) rfl
  obtain ⟨x_66, hx_66, rx_66⟩ := ex_getw (I := I_60) (a := x) (j := 50) (lo := 0) (hi := 59) hUI_60.1 hLx (ro_o hkx (by decide)) rfl
  obtain ⟨x_67, hx_67, rx_67⟩ := ex_getw (I := I_60) (a := x) (j := 48) (lo := 0) (hi := 20) hUI_60.1 hLx (ro_o hkx (by decide)) rfl
  refine g_if_ne C (tgt := 9) dX12_readOr_4 (by decide) (fun h_68 => ?_) (fun h_68 => ?_)
  · skip
    have n_69 : ¬ x_59 = 0 := h_68
    have r_70 := ne_lo (lo := 1) n_69 rx_59 rc_0 rfl (by decide)
    have f_71 := sz_v hx_1 hx_2 hx_65 hx_67 hx_66 (ex_59.1 n_69)
    refine g_aload_n C 0 dX12_readOr_9 rfl rfl ?_
    refine g_getI C K hLx hkx f_12_386 (v := x_66) hx_66 dX12_readOr_10 ?_
    refine g_istore_n C dX12_readOr_13 rfl (by decide) (lo2 := [(1, .int x_66), (0, .ref x)]) rfl ?_
    refine g_lo (is := [1, 0]) (lo2 := [(0, .ref x), (1, .int x_66)]) rfl ?_
    exact l_14 21 I_60 J_61 hUI_60 hF_63 hG_64 x_66 (rx_66) x_65 (rx_65) x_67 (rx_67) x_66 (rx_66) hx_65 hx_67 ex_59.2 hx_66 ⟨by omega, by omega, by omega, by omega⟩ (by have := (rx_67).1; omega)
  · skip
    have r_72 := (⟨(rx_59).1, (eq_rg (h_68) rc_0).2⟩ : Rg 0 0 x_59)
    refine g_iconst C (v := 0) dX12_readOr_7 (by decide) ?_
    exact g_zret (ty := .boolean) (r := 0) B K rfl (rfl) ⟨hUI_60, hF_63, hG_64, rg_w rc_0 (by decide) (by decide), (fun q => absurd rfl q), ex_59.2⟩ dX12_readOr_8
set_option maxRecDepth 100000 in
set_option maxHeartbeats 8000000 in
theorem c_X12_readBracket_1 {l : Launch} {D : va_G} {cy : Nat → ClassId} {L : List Nat} {κ ln : Nat → Nat} {R : Nat → Nat → Option Nat} {I : Nat → Nat → Int32} {J : Nat → Nat → Int64} {ow : Nat → Nat × Nat} (W9 : ∀ a ∈ L, Shp L κ ln R ow a) {x : Nat} (hLx : x ∈ L) (hkx : κ x = 12) (hU : Iw L κ R ow I) (hn : (I x 47).toInt ≤ 2 * (I x 48).toInt) (hwi : I x 49 = 1) : CtI l yX12_readBracket cX12_readBracket 1 (some .boolean) { frames := 34, cells := 0, slots := 0, locals := 729 } D cy L κ ln R I J [.ref x] (fun r I2 J2 => Iw L κ R ow I2 ∧ Fq L κ ow [1205, 1206, 1207, 1208, 1209, 1210, 1211, 1213, 1247, 1248, 1249, 1250, 86600] I I2 ∧ Fq L κ ow [1212] J J2 ∧ Rg 0 1 r ∧ (¬ r = 0 → Sz_ x I I2 1) ∧ (I2 x 49 = 1)) := by
  obtain ⟨x_1, hx_1, rx_1⟩ := ex_getw (I := I) (a := x) (j := 47) (lo := 0) (hi := 60) hU.1 hLx (ro_o hkx (by decide)) rfl
  obtain ⟨x_2, hx_2, rx_2⟩ := ex_getw (I := I) (a := x) (j := 48) (lo := 0) (hi := 20) hU.1 hLx (ro_o hkx (by decide)) rfl
  rw [hx_1, hx_2] at hn
  obtain ⟨x_3, hx_3, rx_3⟩ := ex_getw (I := I) (a := x) (j := 50) (lo := 0) (hi := 59) hU.1 hLx (ro_o hkx (by decide)) rfl
  refine CtI.of (by decide +kernel) (Nat.le_of_ble_eq_true rfl) ?_
  intro p e s m below meth c B K
  have C := B.1
  have hF : Fq L κ ow [1205, 1206, 1207, 1208, 1209, 1210, 1211, 1213, 1247, 1248, 1249, 1250, 86600] I I := fq_rf
  have hG : Fq L κ ow [1212] J J := fq_rf
  refine g_lo (is := [0]) (lo2 := [(0, .ref x)]) rfl ?_
  refine g_aload_n C 0 dX12_readBracket_0 rfl rfl ?_
  refine g_callVI C K (c_X12_readOr_1 W9 hLx hkx   hU  (by rw [hx_1, hx_2]; omega) (hwi)) hLx hkx (by decide) rfl v_12_413 rfl ⟨rfl, rfl⟩ ⟨Nat.le_of_ble_eq_true rfl, Nat.le_of_ble_eq_true rfl⟩ (Nat.le_of_ble_eq_true rfl) ⟨Nat.le_of_ble_eq_true rfl, Nat.le_of_ble_eq_true rfl⟩ dX12_readBracket_1 rfl (st := []) (fun x_4 I_5 J_6 h_7 => ?_)
  obtain ⟨hUI_5, hFI_5, hGJ_6, rx_4, ex_4⟩ := h_7
  have hF_8 := fq_tr hF hFI_5 (by decide)
  have hG_9 := fq_tr hG hGJ_6 (by decide)
  obtain ⟨x_10, hx_10, rx_10⟩ := ex_getw (I := I_5) (a := x) (j := 47) (lo := 0) (hi := 60) hUI_5.1 hLx (ro_o hkx (by decide)) rfl
  obtain ⟨x_11, hx_11, rx_11⟩ := ex_getw (I := I_5) (a := x) (j := 50) (lo := 0) (hi := 59) hUI_5.1 hLx (ro_o hkx (by decide)) rfl
  obtain ⟨x_12, hx_12, rx_12⟩ := ex_getw (I := I_5) (a := x) (j := 48) (lo := 0) (hi := 20) hUI_5.1 hLx (ro_o hkx (by decide)) rfl
  refine g_if_ne C (tgt := 9) dX12_readBracket_4 (by decide) (fun h_13 => ?_) (fun h_13 => ?_)
  · skip
    have n_14 : ¬ x_4 = 0 := h_13
    have r_15 := ne_lo (lo := 1) n_14 rx_4 rc_0 rfl (by decide)
    have f_16 := sz_v hx_1 hx_2 hx_10 hx_12 hx_11 (ex_4.1 n_14)
    refine g_aload_n C 0 dX12_readBracket_9 rfl rfl ?_
    refine g_bipush C (v := 41) dX12_readBracket_10 (by decide) ?_
    obtain ⟨x_17, hx_17, rx_17⟩ := ex_getw (I := I_5) (a := x) (j := 7) (lo := 0) (hi := 4) hUI_5.1 hLx (ro_o hkx (by decide)) rfl
    refine g_callVI C K (c_X12_isSign W9 hLx hkx 41 (rg_w rc_41 (by decide) (by decide)) hUI_5) hLx hkx (by decide) rfl v_12_159 rfl ⟨rfl, rfl⟩ ⟨Nat.le_of_ble_eq_true rfl, Nat.le_of_ble_eq_true rfl⟩ (Nat.le_of_ble_eq_true rfl) ⟨Nat.le_of_ble_eq_true rfl, Nat.le_of_ble_eq_true rfl⟩ dX12_readBracket_12 rfl (st := []) (fun x_18 I_19 J_20 h_21 => ?_)
    obtain ⟨rfl, rfl, rx_18, fx_18, ex_18⟩ := h_21
    have q_22 := hx_17
    refine g_if_ne C (tgt := 24) dX12_readBracket_15 (by decide) (fun h_23 => ?_) (fun h_23 => ?_)
    · skip
      have n_24 : ¬ x_18 = 0 := h_23
      have r_25 := ne_lo (lo := 1) n_24 rx_18 rc_0 rfl (by decide)
      have r_26 := rg_i rx_17 (eq_rg q_22.symm ((ex_18) n_24)) (lo := 4) (hi := 4) (by decide) (by decide)
      refine g_aload_n C 0 dX12_readBracket_24 rfl rfl ?_
      refine g_callVV C K (c_X12_go W9 hLx hkx   hUI_5) hLx hkx (by decide) rfl v_12_156 rfl ⟨rfl, rfl⟩ ⟨Nat.le_of_ble_eq_true rfl, Nat.le_of_ble_eq_true rfl⟩ (Nat.le_of_ble_eq_true rfl) ⟨Nat.le_of_ble_eq_true rfl, Nat.le_of_ble_eq_true rfl⟩ dX12_readBracket_25 rfl (st := []) (fun I_28 J_29 h_30 => ?_)
      obtain ⟨hUI_28, hFI_28, hGJ_29, fx_27, ex_27⟩ := h_30
      have hF_31 := fq_tr hF_8 hFI_28 (by decide)
      have hG_32 := fq_tr hG_9 hGJ_29 (by decide)
      refine g_iconst C (v := 1) dX12_readBracket_28 (by decide) ?_
      exact g_zret (ty := .boolean) (r := 1) B K rfl (rfl) ⟨hUI_28, hF_31, hG_32, rg_w rc_1 (by decide) (by decide), (fun _ => (sz_m hx_1 hx_2 (fq_at hFI_28 hLx hkx (by decide) (by decide) hx_10) (fq_at hFI_28 hLx hkx (by decide) (by decide) hx_12) (fq_at hFI_28 hLx hkx (by decide) (by decide) hx_11) ⟨by omega, by omega, by omega, by omega⟩)), (fq_at hFI_28 hLx hkx (by decide) (by decide) ex_4.2)⟩ dX12_readBracket_29
    · skip
      have r_33 := (⟨(rx_18).1, (eq_rg (h_23) rc_0).2⟩ : Rg 0 0 x_18)
      refine g_aload_n C 0 dX12_readBracket_18 rfl rfl ?_
      refine g_iconst C (v := 1) dX12_readBracket_19 (by decide) ?_
      refine g_callVI C K (c_X12_bad W9 hLx hkx 1 (rg_w rc_1 (by decide) (by decide)) hUI_5) hLx hkx (by decide) rfl v_12_146 rfl ⟨rfl, rfl⟩ ⟨Nat.le_of_ble_eq_true rfl, Nat.le_of_ble_eq_true rfl⟩ (Nat.le_of_ble_eq_true rfl) ⟨Nat.le_of_ble_eq_true rfl, Nat.le_of_ble_eq_true rfl⟩ dX12_readBracket_20 rfl (st := []) (fun x_34 I_35 J_36 h_37 => ?_)
      obtain ⟨hUI_35, hFI_35, hGJ_36, rx_34, fx_34⟩ := h_37
      have hF_38 := fq_tr hF_8 hFI_35 (by decide)
      have hG_39 := fq_tr hG_9 hGJ_36 (by decide)
      exact g_zret (ty := .boolean) (r := x_34) B K rfl (nar_z (rg_w rx_34 (by decide) (by decide))) ⟨hUI_35, hF_38, hG_39, rg_w rx_34 (by decide) (by decide), (fun q => ne_no q rx_34 rc_0), (fq_at hFI_35 hLx hkx (by decide) (by decide) ex_4.2)⟩ dX12_readBracket_23
  · skip
    have r_40 := (⟨(rx_4).1, (eq_rg (h_13) rc_0).2⟩ : Rg 0 0 x_4)
    refine g_iconst C (v := 0) dX12_readBracket_7 (by decide) ?_
    exact g_zret (ty := .boolean) (r := 0) B K rfl (rfl) ⟨hUI_5, hF_8, hG_9, rg_w rc_0 (by decide) (by decide), (fun q => absurd rfl q), ex_4.2⟩ dX12_readBracket_8
set_option maxRecDepth 100000 in
set_option maxHeartbeats 8000000 in
theorem c_X12_readNot_1 {l : Launch} {D : va_G} {cy : Nat → ClassId} {L : List Nat} {κ ln : Nat → Nat} {R : Nat → Nat → Option Nat} {I : Nat → Nat → Int32} {J : Nat → Nat → Int64} {ow : Nat → Nat × Nat} (W9 : ∀ a ∈ L, Shp L κ ln R ow a) {x : Nat} (hLx : x ∈ L) (hkx : κ x = 12) (hU : Iw L κ R ow I) (hn : (I x 47).toInt ≤ 2 * (I x 48).toInt) (hwi : I x 49 = 1) : CtI l yX12_readNot cX12_readNot 1 (some .boolean) { frames := 32, cells := 0, slots := 0, locals := 687 } D cy L κ ln R I J [.ref x] (fun r I2 J2 => Iw L κ R ow I2 ∧ Fq L κ ow [1205, 1206, 1207, 1208, 1209, 1210, 1211, 1213, 1247, 1248, 1249, 1250, 86600] I I2 ∧ Fq L κ ow [1212] J J2 ∧ Rg 0 1 r ∧ (¬ r = 0 → Sz_ x I I2 0) ∧ (I2 x 49 = 1)) := by
  obtain ⟨x_1, hx_1, rx_1⟩ := ex_getw (I := I) (a := x) (j := 47) (lo := 0) (hi := 60) hU.1 hLx (ro_o hkx (by decide)) rfl
  obtain ⟨x_2, hx_2, rx_2⟩ := ex_getw (I := I) (a := x) (j := 48) (lo := 0) (hi := 20) hU.1 hLx (ro_o hkx (by decide)) rfl
  rw [hx_1, hx_2] at hn
  obtain ⟨x_3, hx_3, rx_3⟩ := ex_getw (I := I) (a := x) (j := 50) (lo := 0) (hi := 59) hU.1 hLx (ro_o hkx (by decide)) rfl
  refine CtI.of (by decide +kernel) (Nat.le_of_ble_eq_true rfl) ?_
  intro p e s m below meth c B K
  have C := B.1
  have hF : Fq L κ ow [1205, 1206, 1207, 1208, 1209, 1210, 1211, 1213, 1247, 1248, 1249, 1250, 86600] I I := fq_rf
  have hG : Fq L κ ow [1212] J J := fq_rf
  refine g_lo (is := [0]) (lo2 := [(0, .ref x)]) rfl ?_
  refine g_aload_n C 0 dX12_readNot_0 rfl rfl ?_
  refine g_callVI C K (c_X12_readSaid_1 W9 hLx hkx   hU  (by rw [hx_1, hx_2]; omega) (hwi)) hLx hkx (by decide) rfl v_12_392 rfl ⟨rfl, rfl⟩ ⟨Nat.le_of_ble_eq_true rfl, Nat.le_of_ble_eq_true rfl⟩ (Nat.le_of_ble_eq_true rfl) ⟨Nat.le_of_ble_eq_true rfl, Nat.le_of_ble_eq_true rfl⟩ dX12_readNot_1 rfl (st := []) (fun x_4 I_5 J_6 h_7 => ?_)
  obtain ⟨hUI_5, hFI_5, hGJ_6, rx_4, ex_4⟩ := h_7
  have hF_8 := fq_tr hF hFI_5 (by decide)
  have hG_9 := fq_tr hG hGJ_6 (by decide)
  obtain ⟨x_10, hx_10, rx_10⟩ := ex_getw (I := I_5) (a := x) (j := 47) (lo := 0) (hi := 60) hUI_5.1 hLx (ro_o hkx (by decide)) rfl
  obtain ⟨x_11, hx_11, rx_11⟩ := ex_getw (I := I_5) (a := x) (j := 50) (lo := 0) (hi := 59) hUI_5.1 hLx (ro_o hkx (by decide)) rfl
  obtain ⟨x_12, hx_12, rx_12⟩ := ex_getw (I := I_5) (a := x) (j := 48) (lo := 0) (hi := 20) hUI_5.1 hLx (ro_o hkx (by decide)) rfl
  refine g_if_ne C (tgt := 9) dX12_readNot_4 (by decide) (fun h_13 => ?_) (fun h_13 => ?_)
  · skip
    have n_14 : ¬ x_4 = 0 := h_13
    have r_15 := ne_lo (lo := 1) n_14 rx_4 rc_0 rfl (by decide)
    have f_16 := sz_v hx_1 hx_2 hx_10 hx_12 hx_11 (ex_4.1 n_14)
    refine g_aload_n C 0 dX12_readNot_9 rfl rfl ?_
    refine g_aload_n C 0 dX12_readNot_10 rfl rfl ?_
    refine g_iconst C (v := 1) dX12_readNot_11 (by decide) ?_
    refine g_aload_n C 0 dX12_readNot_12 rfl rfl ?_
    refine g_getI C K hLx hkx f_12_386 (v := x_11) hx_11 dX12_readNot_13 ?_
    refine g_iconst C (v := 0) dX12_readNot_16 (by decide) ?_
    refine g_iconst C (v := 0) dX12_readNot_17 (by decide) ?_
    have r_17 := (show Rg 0 59 x_10 from by have q1 := rx_10; have q2 := rx_12; unfold Rg at *; omega)
    refine g_callVI C K (c_X12_saysOne W9 hLx hkx 1 x_11 0 0 (rg_w rc_1 (by decide) (by decide)) (rx_11) (rg_w rc_0 (by decide) (by decide)) hUI_5  (eq_rg hx_10 (r_17)) (by rw [hx_10]; exact ⟨fun _ => ⟨by have := (rx_11).1; omega, by omega⟩, fun q => absurd q (by decide), fun q => absurd q (by decide)⟩)) hLx hkx (by decide) rfl v_12_389 rfl ⟨rfl, rfl⟩ ⟨Nat.le_of_ble_eq_true rfl, Nat.le_of_ble_eq_true rfl⟩ (Nat.le_of_ble_eq_true rfl) ⟨Nat.le_of_ble_eq_true rfl, Nat.le_of_ble_eq_true rfl⟩ dX12_readNot_18 rfl (st := [.ref x]) (fun x_18 I_19 J_20 h_21 => ?_)
    obtain ⟨hUI_19, hFI_19, hGJ_20, rx_18, ex_18⟩ := h_21
    have hF_22 := fq_tr hF_8 hFI_19 (by decide)
    have hG_23 := fq_tr hG_9 hGJ_20 (by decide)
    obtain ⟨x_24, hx_24, rx_24, tx_24, ux_24⟩ := sa_b (lo := 1) (hi := 60) ex_18 hx_10 r_17 (by decide) (by decide)
    have r_25 := (show Rg 0 59 x_18 from by have q1 := ux_24; have q2 := r_17; unfold Rg at *; omega)
    refine h_putI C K hLx hkx f_12_386 p_12_50 dX12_readNot_21 (fun I_26 hI_26 => ?_)
    have hU_27 := iw_put W9 hUI_19 hI_26 (ro_o hkx (by decide)) (lo := 0) (hi := 59) (rfl) (r_25) rfl
    have hF_28 := fq_puto hF_22 hI_26 hkx (by decide) (by decide)
    refine g_iconst C (v := 1) dX12_readNot_24 (by decide) ?_
    exact g_zret (ty := .boolean) (r := 1) B K rfl (rfl) ⟨hU_27, hF_28, hG_23, rg_w rc_1 (by decide) (by decide), (fun _ => (sz_m hx_1 hx_2 (kp_j hI_26 (by decide) hx_24) (kp_j hI_26 (by decide) (fq_at hFI_19 hLx hkx (by decide) (by decide) hx_12)) (kp_s hI_26) ⟨by have := tx_24; omega, by have := tx_24; omega, by have := tx_24; omega, by have := tx_24; omega⟩)), (kp_j hI_26 (by decide) (fq_at hFI_19 hLx hkx (by decide) (by decide) ex_4.2))⟩ dX12_readNot_25
  · skip
    have r_29 := (⟨(rx_4).1, (eq_rg (h_13) rc_0).2⟩ : Rg 0 0 x_4)
    refine g_iconst C (v := 0) dX12_readNot_7 (by decide) ?_
    exact g_zret (ty := .boolean) (r := 0) B K rfl (rfl) ⟨hUI_5, hF_8, hG_9, rg_w rc_0 (by decide) (by decide), (fun q => absurd rfl q), ex_4.2⟩ dX12_readNot_8
set_option maxRecDepth 100000 in
set_option maxHeartbeats 8000000 in
theorem c_X12_readSaid_0 {l : Launch} {D : va_G} {cy : Nat → ClassId} {L : List Nat} {κ ln : Nat → Nat} {R : Nat → Nat → Option Nat} {I : Nat → Nat → Int32} {J : Nat → Nat → Int64} {ow : Nat → Nat × Nat} (W9 : ∀ a ∈ L, Shp L κ ln R ow a) {x : Nat} (hLx : x ∈ L) (hkx : κ x = 12) (hU : Iw L κ R ow I) (hn : (I x 47).toInt ≤ 2 * (I x 48).toInt) (hwi : I x 49 = 0) : CtI l yX12_readSaid cX12_readSaid 4 (some .boolean) { frames := 35, cells := 0, slots := 0, locals := 749 } D cy L κ ln R I J [.ref x] (fun r I2 J2 => Iw L κ R ow I2 ∧ Fq L κ ow [1205, 1206, 1207, 1208, 1209, 1210, 1211, 1213, 1247, 1248, 1249, 1250, 86600] I I2 ∧ Fq L κ ow [1212] J J2 ∧ Rg 0 1 r ∧ (¬ r = 0 → Sz_ x I I2 1) ∧ (I2 x 49 = 0)) := by
  obtain ⟨x_1, hx_1, rx_1⟩ := ex_getw (I := I) (a := x) (j := 47) (lo := 0) (hi := 60) hU.1 hLx (ro_o hkx (by decide)) rfl
  obtain ⟨x_2, hx_2, rx_2⟩ := ex_getw (I := I) (a := x) (j := 48) (lo := 0) (hi := 20) hU.1 hLx (ro_o hkx (by decide)) rfl
  rw [hx_1, hx_2] at hn
  obtain ⟨x_3, hx_3, rx_3⟩ := ex_getw (I := I) (a := x) (j := 50) (lo := 0) (hi := 59) hU.1 hLx (ro_o hkx (by decide)) rfl
  refine CtI.of (by decide +kernel) (Nat.le_of_ble_eq_true rfl) ?_
  intro p e s m below meth c B K
  have C := B.1
  have hF : Fq L κ ow [1205, 1206, 1207, 1208, 1209, 1210, 1211, 1213, 1247, 1248, 1249, 1250, 86600] I I := fq_rf
  have hG : Fq L κ ow [1212] J J := fq_rf
  refine g_lo (is := [0]) (lo2 := [(0, .ref x)]) rfl ?_
  have j_64 : ∀ (I_4 : Nat → Nat → Int32) (J_5 : Nat → Nat → Int64) (hU_6 : Iw L κ R ow I_4) (hF_7 : Fq L κ ow [1205, 1206, 1207, 1208, 1209, 1210, 1211, 1213, 1247, 1248, 1249, 1250, 86600] I I_4) (hG_8 : Fq L κ ow [1212] J J_5) (v_9 : Int32) (rv_9 : Rg 0 1 v_9) (v_10 : Int32) (rv_10 : Rg 18 28 v_10) (v_11 : Int32) (rv_11 : Rg 0 60 v_11) (v_12 : Int32) (rv_12 : Rg 20 20 v_12) (v_13 : Int32) (rv_13 : Rg 0 59 v_13) (v_14 : Int32) (rv_14 : Rg 0 4 v_14) (q_15 : I_4 x 47 = v_11) (q_16 : I_4 x 48 = v_12) (q_17 : I_4 x 49 = 0) (q_18 : I_4 x 50 = v_13) (q_19 : I_4 x 7 = v_14) (hj_20 : v_11.toInt = x_1.toInt ∧ v_12.toInt = x_2.toInt), WG p l e { frames := 35, cells := 0, slots := 0, locals := 749 } s m ([.ref x] : List Value).toArray below meth c 4 0 0 (MQ below (Qi_ D cy L κ ln R (fun r I2 J2 => Iw L κ R ow I2 ∧ Fq L κ ow [1205, 1206, 1207, 1208, 1209, 1210, 1211, 1213, 1247, 1248, 1249, 1250, 86600] I I2 ∧ Fq L κ ow [1212] J J2 ∧ Rg 0 1 r ∧ (¬ r = 0 → Sz_ x I I2 1) ∧ (I2 x 49 = 0))) ([.ref x] : List Value).toArray s 0 0 (Al_ L)) D cy (Al_ L) s.heap L κ ln R I_4 J_5 64 [(0, .ref x), (1, .int v_9), (2, .int v_10)] [] := by
    intro I_4 J_5 hU_6 hF_7 hG_8 v_9 rv_9 v_10 rv_10 v_11 rv_11 v_12 rv_12 v_13 rv_13 v_14 rv_14 q_15 q_16 q_17 q_18 q_19 hj_20
    refine g_aload_n C 0 dX12_readSaid_64 rfl rfl ?_
    refine g_iconst C (v := 4) dX12_readSaid_65 (by decide) ?_
    refine g_callVI C K (c_X12_bad W9 hLx hkx 4 (rg_w rc_4 (by decide) (by decide)) hU_6) hLx hkx (by decide) rfl v_12_146 rfl ⟨rfl, rfl⟩ ⟨Nat.le_of_ble_eq_true rfl, Nat.le_of_ble_eq_true rfl⟩ (Nat.le_of_ble_eq_true rfl) ⟨Nat.le_of_ble_eq_true rfl, Nat.le_of_ble_eq_true rfl⟩ dX12_readSaid_66 rfl (st := []) (fun x_21 I_22 J_23 h_24 => ?_)
    obtain ⟨hUI_22, hFI_22, hGJ_23, rx_21, fx_21⟩ := h_24
    have hF_25 := fq_tr hF_7 hFI_22 (by decide)
    have hG_26 := fq_tr hG_8 hGJ_23 (by decide)
    exact g_zret (ty := .boolean) (r := x_21) B K rfl (nar_z (rg_w rx_21 (by decide) (by decide))) ⟨hUI_22, hF_25, hG_26, rg_w rx_21 (by decide) (by decide), (fun q => ne_no q rx_21 rc_0), (fq_at hFI_22 hLx hkx (by decide) (by decide) q_17)⟩ dX12_readSaid_69
  have j_46 : ∀ (I_27 : Nat → Nat → Int32) (J_28 : Nat → Nat → Int64) (hU_29 : Iw L κ R ow I_27) (hF_30 : Fq L κ ow [1205, 1206, 1207, 1208, 1209, 1210, 1211, 1213, 1247, 1248, 1249, 1250, 86600] I I_27) (hG_31 : Fq L κ ow [1212] J J_28) (v_32 : Int32) (rv_32 : Rg 0 1 v_32) (v_33 : Int32) (rv_33 : Rg 18 28 v_33) (v_34 : Int32) (rv_34 : Rg 0 60 v_34) (v_35 : Int32) (rv_35 : Rg 0 20 v_35) (v_36 : Int32) (rv_36 : Rg 0 59 v_36) (v_37 : Int32) (rv_37 : Rg 0 4 v_37) (q_38 : I_27 x 47 = v_34) (q_39 : I_27 x 48 = v_35) (q_40 : I_27 x 49 = 0) (q_41 : I_27 x 50 = v_36) (q_42 : I_27 x 7 = v_37) (hj_43 : v_34.toInt = x_1.toInt ∧ v_35.toInt = x_2.toInt), WG p l e { frames := 35, cells := 0, slots := 0, locals := 749 } s m ([.ref x] : List Value).toArray below meth c 4 0 0 (MQ below (Qi_ D cy L κ ln R (fun r I2 J2 => Iw L κ R ow I2 ∧ Fq L κ ow [1205, 1206, 1207, 1208, 1209, 1210, 1211, 1213, 1247, 1248, 1249, 1250, 86600] I I2 ∧ Fq L κ ow [1212] J J2 ∧ Rg 0 1 r ∧ (¬ r = 0 → Sz_ x I I2 1) ∧ (I2 x 49 = 0))) ([.ref x] : List Value).toArray s 0 0 (Al_ L)) D cy (Al_ L) s.heap L κ ln R I_27 J_28 46 [(0, .ref x), (1, .int v_32), (2, .int v_33)] [] := by
    intro I_27 J_28 hU_29 hF_30 hG_31 v_32 rv_32 v_33 rv_33 v_34 rv_34 v_35 rv_35 v_36 rv_36 v_37 rv_37 q_38 q_39 q_40 q_41 q_42 hj_43
    refine g_aload_n C 0 dX12_readSaid_46 rfl rfl ?_
    refine g_getI C K hLx hkx f_12_395 (v := v_35) q_39 dX12_readSaid_47 ?_
    refine g_bipush C (v := 20) dX12_readSaid_50 (by decide) ?_
    refine g_icmp_eq C (tgt := 64) dX12_readSaid_52 (by decide) (fun h_44 => ?_) (fun h_44 => ?_)
    · skip
      have r_45 := (⟨(eq_rg (h_44) rc_20).1, (rv_35).2⟩ : Rg 20 20 v_35)
      refine g_lo (is := [0, 1, 2]) (lo2 := [(0, .ref x), (1, .int v_32), (2, .int v_33)]) rfl ?_
      exact j_64 I_27 J_28 hU_29 hF_30 hG_31 v_32 (rv_32) v_33 (rv_33) v_34 (rv_34) v_35 (r_45) v_36 (rv_36) v_37 (rv_37) q_38 q_39 q_40 q_41 q_42 ⟨by omega, by omega⟩
    · skip
      have n_46 : ¬ v_35 = 20 := h_44
      have r_47 := ne_hi (hi := 19) n_46 rv_35 rc_20 rfl (by decide)
      refine g_aload_n C 0 dX12_readSaid_55 rfl rfl ?_
      refine g_getI C K hLx hkx f_12_398 (v := 0) q_40 dX12_readSaid_56 ?_
      refine g_bipush C (v := 8) dX12_readSaid_59 (by decide) ?_
      refine g_icmp_ne C (tgt := 70) dX12_readSaid_61 (by decide) (fun h_48 => ?_) (fun h_48 => ?_)
      · skip
        refine g_aload_n C 0 dX12_readSaid_70 rfl rfl ?_
        refine g_dup C dX12_readSaid_71 rfl ?_
        refine g_getI C K hLx hkx f_12_395 (v := v_35) q_39 dX12_readSaid_72 ?_
        refine g_iconst C (v := 1) dX12_readSaid_75 (by decide) ?_
        obtain ⟨x_49, hx_49, rx_49, tx_49⟩ := ex_add 1 20 r_47 rc_1 (by decide) (by decide) (by decide) (by decide)
        refine g_iadd C (v := x_49) dX12_readSaid_76 hx_49 ?_
        refine h_putI C K hLx hkx f_12_395 p_12_48 dX12_readSaid_77 (fun I_50 hI_50 => ?_)
        have hU_51 := iw_put W9 hU_29 hI_50 (ro_o hkx (by decide)) (lo := 0) (hi := 20) (rfl) (rg_w rx_49 (by decide) (by decide)) rfl
        have hF_52 := fq_puto hF_30 hI_50 hkx (by decide) (by decide)
        refine g_aload_n C 0 dX12_readSaid_80 rfl rfl ?_
        refine g_dup C dX12_readSaid_81 rfl ?_
        refine g_getI C K hLx hkx f_12_398 (v := 0) (kp_j hI_50 (by decide) q_40) dX12_readSaid_82 ?_
        refine g_iconst C (v := 1) dX12_readSaid_85 (by decide) ?_
        refine g_iadd C (v := 1) dX12_readSaid_86 (by decide) ?_
        refine h_putI C K hLx hkx f_12_398 p_12_49 dX12_readSaid_87 (fun I_53 hI_53 => ?_)
        have hU_54 := iw_put W9 hU_51 hI_53 (ro_o hkx (by decide)) (lo := 0) (hi := 8) (rfl) (rg_w rc_1 (by decide) (by decide)) rfl
        have hF_55 := fq_puto hF_52 hI_53 hkx (by decide) (by decide)
        refine g_aload_n C 0 dX12_readSaid_90 rfl rfl ?_
        refine g_callVV C K (c_X12_go W9 hLx hkx   hU_54) hLx hkx (by decide) rfl v_12_156 rfl ⟨rfl, rfl⟩ ⟨Nat.le_of_ble_eq_true rfl, Nat.le_of_ble_eq_true rfl⟩ (Nat.le_of_ble_eq_true rfl) ⟨Nat.le_of_ble_eq_true rfl, Nat.le_of_ble_eq_true rfl⟩ dX12_readSaid_91 rfl (st := []) (fun I_57 J_58 h_59 => ?_)
        obtain ⟨hUI_57, hFI_57, hGJ_58, fx_56, ex_56⟩ := h_59
        have hF_60 := fq_tr hF_55 hFI_57 (by decide)
        have hG_61 := fq_tr hG_31 hGJ_58 (by decide)
        refine g_iconst C (v := 1) dX12_readSaid_94 (by decide) ?_
        refine g_istore_n C dX12_readSaid_95 rfl (by decide) (lo2 := [(3, .int 1), (0, .ref x), (1, .int v_32), (2, .int v_33)]) rfl ?_
        refine g_iload_n C 2 dX12_readSaid_96 rfl rfl ?_
        refine g_if_eq C (tgt := 108) dX12_readSaid_97 (by decide) (fun h_62 => ?_) (fun h_62 => ?_)
        · skip
          have r_63 := (⟨(rv_32).1, (eq_rg (h_62) rc_0).2⟩ : Rg 0 0 v_32)
          refine g_iload_n C 3 dX12_readSaid_108 rfl rfl ?_
          refine g_bipush C (v := 18) dX12_readSaid_109 (by decide) ?_
          refine g_icmp_ne C (tgt := 122) dX12_readSaid_111 (by decide) (fun h_64 => ?_) (fun h_64 => ?_)
          · skip
            have n_65 : ¬ v_33 = 18 := h_64
            have r_66 := ne_lo (lo := 19) n_65 rv_33 rc_18 rfl (by decide)
            refine g_iload_n C 3 dX12_readSaid_122 rfl rfl ?_
            refine g_bipush C (v := 22) dX12_readSaid_123 (by decide) ?_
            refine g_icmp_ge C (tgt := 146) dX12_readSaid_125 (by decide) (fun h_67 => ?_) (fun h_67 => ?_)
            · skip
              have r_68 := le_r (h_67) rc_22 r_66
              refine g_iload_n C 3 dX12_readSaid_146 rfl rfl ?_
              refine g_bipush C (v := 24) dX12_readSaid_147 (by decide) ?_
              refine g_icmp_ge C (tgt := 160) dX12_readSaid_149 (by decide) (fun h_69 => ?_) (fun h_69 => ?_)
              · skip
                have r_70 := le_r (h_69) rc_24 r_68
                refine g_aload_n C 1 dX12_readSaid_160 rfl rfl ?_
                refine g_iload_n C 3 dX12_readSaid_161 rfl rfl ?_
                refine g_callVI C K (c_X12_readCompare W9 hLx hkx v_33 (r_70) hUI_57  (by rw [(fq_at hFI_57 hLx hkx (by decide) (by decide) (kp_j hI_53 (by decide) (kp_j hI_50 (by decide) q_38))), (fq_at hFI_57 hLx hkx (by decide) (by decide) (kp_j hI_53 (by decide) (kp_s hI_50)))]; have := (ti_k tx_49 rc_1); omega)) hLx hkx (by decide) rfl v_12_410 rfl ⟨rfl, rfl⟩ ⟨Nat.le_of_ble_eq_true rfl, Nat.le_of_ble_eq_true rfl⟩ (Nat.le_of_ble_eq_true rfl) ⟨Nat.le_of_ble_eq_true rfl, Nat.le_of_ble_eq_true rfl⟩ dX12_readSaid_162 rfl (st := []) (fun x_71 I_72 J_73 h_74 => ?_)
                obtain ⟨hUI_72, hFI_72, hGJ_73, rx_71, ex_71⟩ := h_74
                have hF_75 := fq_tr hF_60 hFI_72 (by decide)
                have hG_76 := fq_tr hG_61 hGJ_73 (by decide)
                obtain ⟨x_77, hx_77, rx_77⟩ := ex_getw (I := I_72) (a := x) (j := 47) (lo := 0) (hi := 60) hUI_72.1 hLx (ro_o hkx (by decide)) rfl
                obtain ⟨x_78, hx_78, rx_78⟩ := ex_getw (I := I_72) (a := x) (j := 50) (lo := 0) (hi := 59) hUI_72.1 hLx (ro_o hkx (by decide)) rfl
                refine g_istore_n C dX12_readSaid_165 rfl (by decide) (lo2 := [(3, .int x_71), (0, .ref x), (1, .int v_32), (2, .int v_33)]) rfl ?_
                refine g_aload_n C 1 dX12_readSaid_166 rfl rfl ?_
                refine g_dup C dX12_readSaid_167 rfl ?_
                refine g_getI C K hLx hkx f_12_398 (v := 1) (fq_at hFI_72 hLx hkx (by decide) (by decide) (fq_at hFI_57 hLx hkx (by decide) (by decide) (kp_s hI_53))) dX12_readSaid_168 ?_
                refine g_iconst C (v := 1) dX12_readSaid_171 (by decide) ?_
                refine g_isub C (v := 0) dX12_readSaid_172 (by decide) ?_
                refine h_putI C K hLx hkx f_12_398 p_12_49 dX12_readSaid_173 (fun I_79 hI_79 => ?_)
                have hU_80 := iw_put W9 hUI_72 hI_79 (ro_o hkx (by decide)) (lo := 0) (hi := 8) (rfl) (rg_w rc_0 (by decide) (by decide)) rfl
                have hF_81 := fq_puto hF_75 hI_79 hkx (by decide) (by decide)
                refine g_iload_n C 0 dX12_readSaid_176 rfl rfl ?_
                exact g_zret (ty := .boolean) (r := x_71) B K rfl (nar_z (rx_71)) ⟨hU_80, hF_81, hG_76, rx_71, (fun hq => by have n_82 : ¬ x_71 = 0 := hq; have r_83 := ne_lo (lo := 1) n_82 rx_71 rc_0 rfl (by decide); have f_84 := sl_v (fq_at hFI_57 hLx hkx (by decide) (by decide) (kp_j hI_53 (by decide) (kp_j hI_50 (by decide) q_38))) hx_77 hx_78 (ex_71 n_82); exact (sz_m hx_1 hx_2 (kp_j hI_79 (by decide) hx_77) (kp_j hI_79 (by decide) (fq_at hFI_72 hLx hkx (by decide) (by decide) (fq_at hFI_57 hLx hkx (by decide) (by decide) (kp_j hI_53 (by decide) (kp_s hI_50))))) (kp_j hI_79 (by decide) hx_78) ⟨by have := (ti_k tx_49 rc_1); omega, by have := (ti_k tx_49 rc_1); omega, by have := (ti_k tx_49 rc_1); omega, by have := (ti_k tx_49 rc_1); omega⟩)), (kp_s hI_79)⟩ dX12_readSaid_177
              · skip
                have r_85 := lt_l (hi := 23) (nle h_69) r_68 rc_24 (by decide)
                refine g_aload_n C 1 dX12_readSaid_152 rfl rfl ?_
                refine g_iload_n C 3 dX12_readSaid_153 rfl rfl ?_
                refine g_callVI C K (c_X12_readOf W9 hLx hkx v_33 (r_85) hUI_57  (by rw [(fq_at hFI_57 hLx hkx (by decide) (by decide) (kp_j hI_53 (by decide) (kp_j hI_50 (by decide) q_38))), (fq_at hFI_57 hLx hkx (by decide) (by decide) (kp_j hI_53 (by decide) (kp_s hI_50)))]; have := (ti_k tx_49 rc_1); omega)) hLx hkx (by decide) rfl v_12_407 rfl ⟨rfl, rfl⟩ ⟨Nat.le_of_ble_eq_true rfl, Nat.le_of_ble_eq_true rfl⟩ (Nat.le_of_ble_eq_true rfl) ⟨Nat.le_of_ble_eq_true rfl, Nat.le_of_ble_eq_true rfl⟩ dX12_readSaid_154 rfl (st := []) (fun x_86 I_87 J_88 h_89 => ?_)
                obtain ⟨hUI_87, hFI_87, hGJ_88, rx_86, ex_86⟩ := h_89
                have hF_90 := fq_tr hF_60 hFI_87 (by decide)
                have hG_91 := fq_tr hG_61 hGJ_88 (by decide)
                obtain ⟨x_92, hx_92, rx_92⟩ := ex_getw (I := I_87) (a := x) (j := 47) (lo := 0) (hi := 60) hUI_87.1 hLx (ro_o hkx (by decide)) rfl
                obtain ⟨x_93, hx_93, rx_93⟩ := ex_getw (I := I_87) (a := x) (j := 50) (lo := 0) (hi := 59) hUI_87.1 hLx (ro_o hkx (by decide)) rfl
                refine g_goto C (tgt := 165) dX12_readSaid_157 (by decide) ?_
                refine g_istore_n C dX12_readSaid_165 rfl (by decide) (lo2 := [(3, .int x_86), (0, .ref x), (1, .int v_32), (2, .int v_33)]) rfl ?_
                refine g_aload_n C 1 dX12_readSaid_166 rfl rfl ?_
                refine g_dup C dX12_readSaid_167 rfl ?_
                refine g_getI C K hLx hkx f_12_398 (v := 1) (fq_at hFI_87 hLx hkx (by decide) (by decide) (fq_at hFI_57 hLx hkx (by decide) (by decide) (kp_s hI_53))) dX12_readSaid_168 ?_
                refine g_iconst C (v := 1) dX12_readSaid_171 (by decide) ?_
                refine g_isub C (v := 0) dX12_readSaid_172 (by decide) ?_
                refine h_putI C K hLx hkx f_12_398 p_12_49 dX12_readSaid_173 (fun I_94 hI_94 => ?_)
                have hU_95 := iw_put W9 hUI_87 hI_94 (ro_o hkx (by decide)) (lo := 0) (hi := 8) (rfl) (rg_w rc_0 (by decide) (by decide)) rfl
                have hF_96 := fq_puto hF_90 hI_94 hkx (by decide) (by decide)
                refine g_iload_n C 0 dX12_readSaid_176 rfl rfl ?_
                exact g_zret (ty := .boolean) (r := x_86) B K rfl (nar_z (rx_86)) ⟨hU_95, hF_96, hG_91, rx_86, (fun hq => by have n_97 : ¬ x_86 = 0 := hq; have r_98 := ne_lo (lo := 1) n_97 rx_86 rc_0 rfl (by decide); have f_99 := sl_v (fq_at hFI_57 hLx hkx (by decide) (by decide) (kp_j hI_53 (by decide) (kp_j hI_50 (by decide) q_38))) hx_92 hx_93 (ex_86 n_97); exact (sz_m hx_1 hx_2 (kp_j hI_94 (by decide) hx_92) (kp_j hI_94 (by decide) (fq_at hFI_87 hLx hkx (by decide) (by decide) (fq_at hFI_57 hLx hkx (by decide) (by decide) (kp_j hI_53 (by decide) (kp_s hI_50))))) (kp_j hI_94 (by decide) hx_93) ⟨by have := (ti_k tx_49 rc_1); omega, by have := (ti_k tx_49 rc_1); omega, by have := (ti_k tx_49 rc_1); omega, by have := (ti_k tx_49 rc_1); omega⟩)), (kp_s hI_94)⟩ dX12_readSaid_177
            · skip
              have r_100 := lt_l (hi := 21) (nle h_67) r_66 rc_22 (by decide)
              refine g_aload_n C 1 dX12_readSaid_128 rfl rfl ?_
              refine g_aload_n C 1 dX12_readSaid_129 rfl rfl ?_
              refine g_bipush C (v := 50) dX12_readSaid_130 (by decide) ?_
              refine g_iload_n C 3 dX12_readSaid_132 rfl rfl ?_
              obtain ⟨x_101, hx_101, rx_101, tx_101⟩ := ex_add 69 71 rc_50 r_100 (by decide) (by decide) (by decide) (by decide)
              refine g_iadd C (v := x_101) dX12_readSaid_133 hx_101 ?_
              refine g_iconst C (v := 0) dX12_readSaid_134 (by decide) ?_
              refine g_iconst C (v := 0) dX12_readSaid_135 (by decide) ?_
              refine g_iconst C (v := 0) dX12_readSaid_136 (by decide) ?_
              have r_102 := (show Rg 0 59 v_34 from by have q1 := rv_34; have q2 := rx_49; unfold Rg at *; omega)
              refine g_callVI C K (c_X12_saysOne W9 hLx hkx x_101 0 0 0 (rg_w rx_101 (by decide) (by decide)) (rg_w rc_0 (by decide) (by decide)) (rg_w rc_0 (by decide) (by decide)) hUI_57  (eq_rg (fq_at hFI_57 hLx hkx (by decide) (by decide) (kp_j hI_53 (by decide) (kp_j hI_50 (by decide) q_38))) (r_102)) (by rw [(fq_at hFI_57 hLx hkx (by decide) (by decide) (kp_j hI_53 (by decide) (kp_j hI_50 (by decide) q_38)))]; exact ⟨fun q => by rcases q with q | q | q; exact absurd q (rg_nek rx_101 rc_1 (by decide)); exact absurd q (rg_nek rx_101 rc_2 (by decide)); exact absurd q (rg_nek rx_101 rc_3 (by decide)), fun q => by rcases q with q | q; exact absurd q (rg_nek rx_101 rc_2 (by decide)); exact absurd q (rg_nek rx_101 rc_3 (by decide)), fun q => absurd q (rg_nek rx_101 rc_73 (by decide))⟩)) hLx hkx (by decide) rfl v_12_389 rfl ⟨rfl, rfl⟩ ⟨Nat.le_of_ble_eq_true rfl, Nat.le_of_ble_eq_true rfl⟩ (Nat.le_of_ble_eq_true rfl) ⟨Nat.le_of_ble_eq_true rfl, Nat.le_of_ble_eq_true rfl⟩ dX12_readSaid_137 rfl (st := [.ref x]) (fun x_103 I_104 J_105 h_106 => ?_)
              obtain ⟨hUI_104, hFI_104, hGJ_105, rx_103, ex_103⟩ := h_106
              have hF_107 := fq_tr hF_60 hFI_104 (by decide)
              have hG_108 := fq_tr hG_61 hGJ_105 (by decide)
              obtain ⟨x_109, hx_109, rx_109, tx_109, ux_109⟩ := sa_b (lo := 1) (hi := 60) ex_103 (fq_at hFI_57 hLx hkx (by decide) (by decide) (kp_j hI_53 (by decide) (kp_j hI_50 (by decide) q_38))) r_102 (by decide) (by decide)
              have r_110 := (show Rg 0 59 x_103 from by have q1 := ux_109; have q2 := r_102; unfold Rg at *; omega)
              refine h_putI C K hLx hkx f_12_386 p_12_50 dX12_readSaid_140 (fun I_111 hI_111 => ?_)
              have hU_112 := iw_put W9 hUI_104 hI_111 (ro_o hkx (by decide)) (lo := 0) (hi := 59) (rfl) (r_110) rfl
              have hF_113 := fq_puto hF_107 hI_111 hkx (by decide) (by decide)
              refine g_goto C (tgt := 166) dX12_readSaid_143 (by decide) ?_
              refine g_aload_n C 1 dX12_readSaid_166 rfl rfl ?_
              refine g_dup C dX12_readSaid_167 rfl ?_
              refine g_getI C K hLx hkx f_12_398 (v := 1) (kp_j hI_111 (by decide) (fq_at hFI_104 hLx hkx (by decide) (by decide) (fq_at hFI_57 hLx hkx (by decide) (by decide) (kp_s hI_53)))) dX12_readSaid_168 ?_
              refine g_iconst C (v := 1) dX12_readSaid_171 (by decide) ?_
              refine g_isub C (v := 0) dX12_readSaid_172 (by decide) ?_
              refine h_putI C K hLx hkx f_12_398 p_12_49 dX12_readSaid_173 (fun I_114 hI_114 => ?_)
              have hU_115 := iw_put W9 hU_112 hI_114 (ro_o hkx (by decide)) (lo := 0) (hi := 8) (rfl) (rg_w rc_0 (by decide) (by decide)) rfl
              have hF_116 := fq_puto hF_113 hI_114 hkx (by decide) (by decide)
              refine g_iload_n C 0 dX12_readSaid_176 rfl rfl ?_
              exact g_zret (ty := .boolean) (r := 1) B K rfl (rfl) ⟨hU_115, hF_116, hG_108, rg_w rc_1 (by decide) (by decide), (fun _ => (sz_m hx_1 hx_2 (kp_j hI_114 (by decide) (kp_j hI_111 (by decide) hx_109)) (kp_j hI_114 (by decide) (kp_j hI_111 (by decide) (fq_at hFI_104 hLx hkx (by decide) (by decide) (fq_at hFI_57 hLx hkx (by decide) (by decide) (kp_j hI_53 (by decide) (kp_s hI_50)))))) (kp_j hI_114 (by decide) (kp_s hI_111)) ⟨by have := tx_109; have := (ti_k tx_49 rc_1); omega, by have := tx_109; have := (ti_k tx_49 rc_1); omega, by have := tx_109; have := (ti_k tx_49 rc_1); omega, by have := tx_109; have := (ti_k tx_49 rc_1); omega⟩)), (kp_s hI_114)⟩ dX12_readSaid_177
          · skip
            have r_117 := (⟨(rv_33).1, (eq_rg (h_64) rc_18).2⟩ : Rg 18 18 v_33)
            refine g_aload_n C 1 dX12_readSaid_114 rfl rfl ?_
            refine g_callVI C K (c_X12_readNot_1 W9 hLx hkx   hUI_57  (by rw [(fq_at hFI_57 hLx hkx (by decide) (by decide) (kp_j hI_53 (by decide) (kp_j hI_50 (by decide) q_38))), (fq_at hFI_57 hLx hkx (by decide) (by decide) (kp_j hI_53 (by decide) (kp_s hI_50)))]; have := (ti_k tx_49 rc_1); omega) ((fq_at hFI_57 hLx hkx (by decide) (by decide) (kp_s hI_53)))) hLx hkx (by decide) rfl v_12_404 rfl ⟨rfl, rfl⟩ ⟨Nat.le_of_ble_eq_true rfl, Nat.le_of_ble_eq_true rfl⟩ (Nat.le_of_ble_eq_true rfl) ⟨Nat.le_of_ble_eq_true rfl, Nat.le_of_ble_eq_true rfl⟩ dX12_readSaid_115 rfl (st := []) (fun x_118 I_119 J_120 h_121 => ?_)
            obtain ⟨hUI_119, hFI_119, hGJ_120, rx_118, ex_118⟩ := h_121
            have hF_122 := fq_tr hF_60 hFI_119 (by decide)
            have hG_123 := fq_tr hG_61 hGJ_120 (by decide)
            obtain ⟨x_124, hx_124, rx_124⟩ := ex_getw (I := I_119) (a := x) (j := 47) (lo := 0) (hi := 60) hUI_119.1 hLx (ro_o hkx (by decide)) rfl
            obtain ⟨x_125, hx_125, rx_125⟩ := ex_getw (I := I_119) (a := x) (j := 50) (lo := 0) (hi := 59) hUI_119.1 hLx (ro_o hkx (by decide)) rfl
            obtain ⟨x_126, hx_126, rx_126⟩ := ex_getw (I := I_119) (a := x) (j := 48) (lo := 0) (hi := 20) hUI_119.1 hLx (ro_o hkx (by decide)) rfl
            refine g_istore_n C dX12_readSaid_118 rfl (by decide) (lo2 := [(3, .int x_118), (0, .ref x), (1, .int v_32), (2, .int v_33)]) rfl ?_
            refine g_goto C (tgt := 166) dX12_readSaid_119 (by decide) ?_
            refine g_aload_n C 1 dX12_readSaid_166 rfl rfl ?_
            refine g_dup C dX12_readSaid_167 rfl ?_
            refine g_getI C K hLx hkx f_12_398 (v := 1) ex_118.2 dX12_readSaid_168 ?_
            refine g_iconst C (v := 1) dX12_readSaid_171 (by decide) ?_
            refine g_isub C (v := 0) dX12_readSaid_172 (by decide) ?_
            refine h_putI C K hLx hkx f_12_398 p_12_49 dX12_readSaid_173 (fun I_127 hI_127 => ?_)
            have hU_128 := iw_put W9 hUI_119 hI_127 (ro_o hkx (by decide)) (lo := 0) (hi := 8) (rfl) (rg_w rc_0 (by decide) (by decide)) rfl
            have hF_129 := fq_puto hF_122 hI_127 hkx (by decide) (by decide)
            refine g_iload_n C 0 dX12_readSaid_176 rfl rfl ?_
            exact g_zret (ty := .boolean) (r := x_118) B K rfl (nar_z (rx_118)) ⟨hU_128, hF_129, hG_123, rx_118, (fun hq => by have n_130 : ¬ x_118 = 0 := hq; have r_131 := ne_lo (lo := 1) n_130 rx_118 rc_0 rfl (by decide); have f_132 := sz_v (fq_at hFI_57 hLx hkx (by decide) (by decide) (kp_j hI_53 (by decide) (kp_j hI_50 (by decide) q_38))) (fq_at hFI_57 hLx hkx (by decide) (by decide) (kp_j hI_53 (by decide) (kp_s hI_50))) hx_124 hx_126 hx_125 (ex_118.1 n_130); have f_133 := (ti_k tx_49 rc_1); exact (sz_m hx_1 hx_2 (kp_j hI_127 (by decide) hx_124) (kp_j hI_127 (by decide) hx_126) (kp_j hI_127 (by decide) hx_125) ⟨by omega, by omega, by omega, by omega⟩)), (kp_s hI_127)⟩ dX12_readSaid_177
        · skip
          have n_134 : ¬ v_32 = 0 := h_62
          have r_135 := ne_lo (lo := 1) n_134 rv_32 rc_0 rfl (by decide)
          refine g_aload_n C 1 dX12_readSaid_100 rfl rfl ?_
          refine g_callVI C K (c_X12_readBracket_1 W9 hLx hkx   hUI_57  (by rw [(fq_at hFI_57 hLx hkx (by decide) (by decide) (kp_j hI_53 (by decide) (kp_j hI_50 (by decide) q_38))), (fq_at hFI_57 hLx hkx (by decide) (by decide) (kp_j hI_53 (by decide) (kp_s hI_50)))]; have := (ti_k tx_49 rc_1); omega) ((fq_at hFI_57 hLx hkx (by decide) (by decide) (kp_s hI_53)))) hLx hkx (by decide) rfl v_12_401 rfl ⟨rfl, rfl⟩ ⟨Nat.le_of_ble_eq_true rfl, Nat.le_of_ble_eq_true rfl⟩ (Nat.le_of_ble_eq_true rfl) ⟨Nat.le_of_ble_eq_true rfl, Nat.le_of_ble_eq_true rfl⟩ dX12_readSaid_101 rfl (st := []) (fun x_136 I_137 J_138 h_139 => ?_)
          obtain ⟨hUI_137, hFI_137, hGJ_138, rx_136, ex_136⟩ := h_139
          have hF_140 := fq_tr hF_60 hFI_137 (by decide)
          have hG_141 := fq_tr hG_61 hGJ_138 (by decide)
          obtain ⟨x_142, hx_142, rx_142⟩ := ex_getw (I := I_137) (a := x) (j := 47) (lo := 0) (hi := 60) hUI_137.1 hLx (ro_o hkx (by decide)) rfl
          obtain ⟨x_143, hx_143, rx_143⟩ := ex_getw (I := I_137) (a := x) (j := 50) (lo := 0) (hi := 59) hUI_137.1 hLx (ro_o hkx (by decide)) rfl
          obtain ⟨x_144, hx_144, rx_144⟩ := ex_getw (I := I_137) (a := x) (j := 48) (lo := 0) (hi := 20) hUI_137.1 hLx (ro_o hkx (by decide)) rfl
          refine g_istore_n C dX12_readSaid_104 rfl (by decide) (lo2 := [(3, .int x_136), (0, .ref x), (1, .int v_32), (2, .int v_33)]) rfl ?_
          refine g_goto C (tgt := 166) dX12_readSaid_105 (by decide) ?_
          refine g_aload_n C 1 dX12_readSaid_166 rfl rfl ?_
          refine g_dup C dX12_readSaid_167 rfl ?_
          refine g_getI C K hLx hkx f_12_398 (v := 1) ex_136.2 dX12_readSaid_168 ?_
          refine g_iconst C (v := 1) dX12_readSaid_171 (by decide) ?_
          refine g_isub C (v := 0) dX12_readSaid_172 (by decide) ?_
          refine h_putI C K hLx hkx f_12_398 p_12_49 dX12_readSaid_173 (fun I_145 hI_145 => ?_)
          have hU_146 := iw_put W9 hUI_137 hI_145 (ro_o hkx (by decide)) (lo := 0) (hi := 8) (rfl) (rg_w rc_0 (by decide) (by decide)) rfl
          have hF_147 := fq_puto hF_140 hI_145 hkx (by decide) (by decide)
          refine g_iload_n C 0 dX12_readSaid_176 rfl rfl ?_
          exact g_zret (ty := .boolean) (r := x_136) B K rfl (nar_z (rx_136)) ⟨hU_146, hF_147, hG_141, rx_136, (fun hq => by have n_148 : ¬ x_136 = 0 := hq; have r_149 := ne_lo (lo := 1) n_148 rx_136 rc_0 rfl (by decide); have f_150 := sz_v (fq_at hFI_57 hLx hkx (by decide) (by decide) (kp_j hI_53 (by decide) (kp_j hI_50 (by decide) q_38))) (fq_at hFI_57 hLx hkx (by decide) (by decide) (kp_j hI_53 (by decide) (kp_s hI_50))) hx_142 hx_144 hx_143 (ex_136.1 n_148); have f_151 := (ti_k tx_49 rc_1); exact (sz_m hx_1 hx_2 (kp_j hI_145 (by decide) hx_142) (kp_j hI_145 (by decide) hx_144) (kp_j hI_145 (by decide) hx_143) ⟨by omega, by omega, by omega, by omega⟩)), (kp_s hI_145)⟩ dX12_readSaid_177
      · skip
        exact absurd (h_48) (by decide)
  have j_30 : ∀ (I_152 : Nat → Nat → Int32) (J_153 : Nat → Nat → Int64) (hU_154 : Iw L κ R ow I_152) (hF_155 : Fq L κ ow [1205, 1206, 1207, 1208, 1209, 1210, 1211, 1213, 1247, 1248, 1249, 1250, 86600] I I_152) (hG_156 : Fq L κ ow [1212] J J_153) (v_157 : Int32) (rv_157 : Rg 0 1 v_157) (v_158 : Int32) (rv_158 : Rg 18 28 v_158) (v_159 : Int32) (rv_159 : Rg 0 60 v_159) (v_160 : Int32) (rv_160 : Rg 0 20 v_160) (v_161 : Int32) (rv_161 : Rg 0 59 v_161) (v_162 : Int32) (rv_162 : Rg 0 4 v_162) (q_163 : I_152 x 47 = v_159) (q_164 : I_152 x 48 = v_160) (q_165 : I_152 x 49 = 0) (q_166 : I_152 x 50 = v_161) (q_167 : I_152 x 7 = v_162) (hj_168 : v_159.toInt = x_1.toInt ∧ v_160.toInt = x_2.toInt), WG p l e { frames := 35, cells := 0, slots := 0, locals := 749 } s m ([.ref x] : List Value).toArray below meth c 4 0 0 (MQ below (Qi_ D cy L κ ln R (fun r I2 J2 => Iw L κ R ow I2 ∧ Fq L κ ow [1205, 1206, 1207, 1208, 1209, 1210, 1211, 1213, 1247, 1248, 1249, 1250, 86600] I I2 ∧ Fq L κ ow [1212] J J2 ∧ Rg 0 1 r ∧ (¬ r = 0 → Sz_ x I I2 1) ∧ (I2 x 49 = 0))) ([.ref x] : List Value).toArray s 0 0 (Al_ L)) D cy (Al_ L) s.heap L κ ln R I_152 J_153 30 [(0, .ref x), (1, .int v_157), (2, .int v_158)] [] := by
    intro I_152 J_153 hU_154 hF_155 hG_156 v_157 rv_157 v_158 rv_158 v_159 rv_159 v_160 rv_160 v_161 rv_161 v_162 rv_162 q_163 q_164 q_165 q_166 q_167 hj_168
    refine g_iload_n C 1 dX12_readSaid_30 rfl rfl ?_
    refine g_if_ne C (tgt := 46) dX12_readSaid_31 (by decide) (fun h_169 => ?_) (fun h_169 => ?_)
    · skip
      have n_170 : ¬ v_157 = 0 := h_169
      have r_171 := ne_lo (lo := 1) n_170 rv_157 rc_0 rfl (by decide)
      refine g_lo (is := [0, 1, 2]) (lo2 := [(0, .ref x), (1, .int v_157), (2, .int v_158)]) rfl ?_
      exact j_46 I_152 J_153 hU_154 hF_155 hG_156 v_157 (rg_w r_171 (by decide) (by decide)) v_158 (rv_158) v_159 (rv_159) v_160 (rv_160) v_161 (rv_161) v_162 (rv_162) q_163 q_164 q_165 q_166 q_167 ⟨by omega, by omega⟩
    · skip
      have r_172 := (⟨(rv_157).1, (eq_rg (h_169) rc_0).2⟩ : Rg 0 0 v_157)
      refine g_iload_n C 2 dX12_readSaid_34 rfl rfl ?_
      refine g_bipush C (v := 27) dX12_readSaid_35 (by decide) ?_
      refine g_icmp_le C (tgt := 46) dX12_readSaid_37 (by decide) (fun h_173 => ?_) (fun h_173 => ?_)
      · skip
        have r_174 := le_l (h_173) rv_158 rc_27
        refine g_lo (is := [0, 1, 2]) (lo2 := [(0, .ref x), (1, .int v_157), (2, .int v_158)]) rfl ?_
        exact j_46 I_152 J_153 hU_154 hF_155 hG_156 v_157 (rg_w r_172 (by decide) (by decide)) v_158 (rg_w r_174 (by decide) (by decide)) v_159 (rv_159) v_160 (rv_160) v_161 (rv_161) v_162 (rv_162) q_163 q_164 q_165 q_166 q_167 ⟨by omega, by omega⟩
      · skip
        have r_175 := lt_r (lo := 28) (nle h_173) rc_27 rv_158 (by decide)
        refine g_aload_n C 0 dX12_readSaid_40 rfl rfl ?_
        refine g_iconst C (v := 1) dX12_readSaid_41 (by decide) ?_
        refine g_callVI C K (c_X12_bad W9 hLx hkx 1 (rg_w rc_1 (by decide) (by decide)) hU_154) hLx hkx (by decide) rfl v_12_146 rfl ⟨rfl, rfl⟩ ⟨Nat.le_of_ble_eq_true rfl, Nat.le_of_ble_eq_true rfl⟩ (Nat.le_of_ble_eq_true rfl) ⟨Nat.le_of_ble_eq_true rfl, Nat.le_of_ble_eq_true rfl⟩ dX12_readSaid_42 rfl (st := []) (fun x_176 I_177 J_178 h_179 => ?_)
        obtain ⟨hUI_177, hFI_177, hGJ_178, rx_176, fx_176⟩ := h_179
        have hF_180 := fq_tr hF_155 hFI_177 (by decide)
        have hG_181 := fq_tr hG_156 hGJ_178 (by decide)
        exact g_zret (ty := .boolean) (r := x_176) B K rfl (nar_z (rg_w rx_176 (by decide) (by decide))) ⟨hUI_177, hF_180, hG_181, rg_w rx_176 (by decide) (by decide), (fun q => ne_no q rx_176 rc_0), (fq_at hFI_177 hLx hkx (by decide) (by decide) q_165)⟩ dX12_readSaid_45
  have l_10 : ∀ (n_10 : Nat) (I_182 : Nat → Nat → Int32) (J_183 : Nat → Nat → Int64) (hU_184 : Iw L κ R ow I_182) (hF_185 : Fq L κ ow [1205, 1206, 1207, 1208, 1209, 1210, 1211, 1213, 1247, 1248, 1249, 1250, 86600] I I_182) (hG_186 : Fq L κ ow [1212] J J_183) (v_187 : Int32) (rv_187 : Rg 0 1 v_187) (v_188 : Int32) (rv_188 : Rg 18 28 v_188) (v_189 : Int32) (rv_189 : Rg 0 60 v_189) (v_190 : Int32) (rv_190 : Rg 0 20 v_190) (v_191 : Int32) (rv_191 : Rg 0 59 v_191) (v_192 : Int32) (rv_192 : Rg 0 4 v_192) (q_193 : I_182 x 47 = v_189) (q_194 : I_182 x 48 = v_190) (q_195 : I_182 x 49 = 0) (q_196 : I_182 x 50 = v_191) (q_197 : I_182 x 7 = v_192) (hj_198 : v_189.toInt = x_1.toInt ∧ v_190.toInt = x_2.toInt) (hm_199 : 28 < (v_188 : Int32).toInt + (n_10 : Int)), WG p l e { frames := 35, cells := 0, slots := 0, locals := 749 } s m ([.ref x] : List Value).toArray below meth c 4 0 0 (MQ below (Qi_ D cy L κ ln R (fun r I2 J2 => Iw L κ R ow I2 ∧ Fq L κ ow [1205, 1206, 1207, 1208, 1209, 1210, 1211, 1213, 1247, 1248, 1249, 1250, 86600] I I2 ∧ Fq L κ ow [1212] J J2 ∧ Rg 0 1 r ∧ (¬ r = 0 → Sz_ x I I2 1) ∧ (I2 x 49 = 0))) ([.ref x] : List Value).toArray s 0 0 (Al_ L)) D cy (Al_ L) s.heap L κ ln R I_182 J_183 10 [(0, .ref x), (1, .int v_187), (2, .int v_188)] [] := by
    intro n_10
    induction n_10 with
    | zero =>
      intro I_182 J_183 hU_184 hF_185 hG_186 v_187 rv_187 v_188 rv_188 v_189 rv_189 v_190 rv_190 v_191 rv_191 v_192 rv_192 q_193 q_194 q_195 q_196 q_197 hj_198 hm_199
      exact ms_0 rv_188 hm_199
    | succ n_10 ih_10 =>
      intro I_182 J_183 hU_184 hF_185 hG_186 v_187 rv_187 v_188 rv_188 v_189 rv_189 v_190 rv_190 v_191 rv_191 v_192 rv_192 q_193 q_194 q_195 q_196 q_197 hj_198 hm_199
      refine g_iload_n C 2 dX12_readSaid_10 rfl rfl ?_
      refine g_bipush C (v := 27) dX12_readSaid_11 (by decide) ?_
      refine g_icmp_gt C (tgt := 30) dX12_readSaid_13 (by decide) (fun h_200 => ?_) (fun h_200 => ?_)
      · skip
        have r_201 := lt_r (lo := 28) (h_200) rc_27 rv_188 (by decide)
        refine g_lo (is := [0, 1, 2]) (lo2 := [(0, .ref x), (1, .int v_187), (2, .int v_188)]) rfl ?_
        exact j_30 I_182 J_183 hU_184 hF_185 hG_186 v_187 (rv_187) v_188 (rg_w r_201 (by decide) (by decide)) v_189 (rv_189) v_190 (rv_190) v_191 (rv_191) v_192 (rv_192) q_193 q_194 q_195 q_196 q_197 ⟨by omega, by omega⟩
      · skip
        have r_202 := le_l (nlt h_200) rv_188 rc_27
        refine g_aload_n C 0 dX12_readSaid_16 rfl rfl ?_
        refine g_iload_n C 2 dX12_readSaid_17 rfl rfl ?_
        refine g_callVI C K (c_X12_isWord W9 hLx hkx v_188 (rg_w r_202 (by decide) (by decide)) hU_184) hLx hkx (by decide) rfl v_12_191 rfl ⟨rfl, rfl⟩ ⟨Nat.le_of_ble_eq_true rfl, Nat.le_of_ble_eq_true rfl⟩ (Nat.le_of_ble_eq_true rfl) ⟨Nat.le_of_ble_eq_true rfl, Nat.le_of_ble_eq_true rfl⟩ dX12_readSaid_18 rfl (st := []) (fun x_203 I_204 J_205 h_206 => ?_)
        obtain ⟨rfl, rfl, rx_203, fx_203⟩ := h_206
        refine g_if_ne C (tgt := 30) dX12_readSaid_21 (by decide) (fun h_207 => ?_) (fun h_207 => ?_)
        · skip
          have n_208 : ¬ x_203 = 0 := h_207
          have r_209 := ne_lo (lo := 1) n_208 rx_203 rc_0 rfl (by decide)
          refine g_lo (is := [0, 1, 2]) (lo2 := [(0, .ref x), (1, .int v_187), (2, .int v_188)]) rfl ?_
          exact j_30 I_182 J_183 hU_184 hF_185 hG_186 v_187 (rv_187) v_188 (rg_w r_202 (by decide) (by decide)) v_189 (rv_189) v_190 (rv_190) v_191 (rv_191) v_192 (rv_192) q_193 q_194 q_195 q_196 q_197 ⟨by omega, by omega⟩
        · skip
          have r_210 := (⟨(rx_203).1, (eq_rg (h_207) rc_0).2⟩ : Rg 0 0 x_203)
          obtain ⟨x_211, hx_211, rx_211, tx_211⟩ := ex_add (y := 1) 19 28 r_202 rc_1 (by decide) (by decide) (by decide) (by decide)
          refine g_iinc C dX12_readSaid_24 (k := 2) (v := x_211) rfl hx_211 (by decide) (lo2 := [(2, .int x_211), (0, .ref x), (1, .int v_187)]) rfl ?_
          refine g_goto C (tgt := 10) dX12_readSaid_27 (by decide) ?_
          refine g_lo (is := [1, 2, 0]) (lo2 := [(0, .ref x), (1, .int v_187), (2, .int x_211)]) rfl ?_
          exact ih_10 I_182 J_183 hU_184 hF_185 hG_186 v_187 (rv_187) x_211 (rg_w rx_211 (by decide) (by decide)) v_189 (rv_189) v_190 (rv_190) v_191 (rv_191) v_192 (rv_192) q_193 q_194 q_195 q_196 q_197 ⟨by omega, by omega⟩ (ms_1 hm_199 (ti_k tx_211 rc_1) (by decide))
  refine g_aload_n C 0 dX12_readSaid_0 rfl rfl ?_
  refine g_bipush C (v := 40) dX12_readSaid_1 (by decide) ?_
  obtain ⟨x_212, hx_212, rx_212⟩ := ex_getw (I := I) (a := x) (j := 7) (lo := 0) (hi := 4) hU.1 hLx (ro_o hkx (by decide)) rfl
  refine g_callVI C K (c_X12_isSign W9 hLx hkx 40 (rg_w rc_40 (by decide) (by decide)) hU) hLx hkx (by decide) rfl v_12_159 rfl ⟨rfl, rfl⟩ ⟨Nat.le_of_ble_eq_true rfl, Nat.le_of_ble_eq_true rfl⟩ (Nat.le_of_ble_eq_true rfl) ⟨Nat.le_of_ble_eq_true rfl, Nat.le_of_ble_eq_true rfl⟩ dX12_readSaid_3 rfl (st := []) (fun x_213 I_214 J_215 h_216 => ?_)
  obtain ⟨rfl, rfl, rx_213, fx_213, ex_213⟩ := h_216
  have q_217 := hx_212
  refine g_istore_n C dX12_readSaid_6 rfl (by decide) (lo2 := [(1, .int x_213), (0, .ref x)]) rfl ?_
  refine g_bipush C (v := 18) dX12_readSaid_7 (by decide) ?_
  refine g_istore_n C dX12_readSaid_9 rfl (by decide) (lo2 := [(2, .int 18), (1, .int x_213), (0, .ref x)]) rfl ?_
  refine g_lo (is := [2, 1, 0]) (lo2 := [(0, .ref x), (1, .int x_213), (2, .int 18)]) rfl ?_
  exact l_10 11 I J hU hF hG x_213 (rx_213) 18 (rg_w rc_18 (by decide) (by decide)) x_1 (rx_1) x_2 (rx_2) x_3 (rx_3) x_212 (rx_212) hx_1 hx_2 hwi hx_3 hx_212 ⟨by omega, by omega⟩ (ms_s (a := 18) (b := 28) (N := 11) (rg_w rc_18 (by decide) (by decide)) (by decide))
set_option maxRecDepth 100000 in
set_option maxHeartbeats 8000000 in
theorem c_X12_readAnd_0 {l : Launch} {D : va_G} {cy : Nat → ClassId} {L : List Nat} {κ ln : Nat → Nat} {R : Nat → Nat → Option Nat} {I : Nat → Nat → Int32} {J : Nat → Nat → Int64} {ow : Nat → Nat × Nat} (W9 : ∀ a ∈ L, Shp L κ ln R ow a) {x : Nat} (hLx : x ∈ L) (hkx : κ x = 12) (hU : Iw L κ R ow I) (hn : (I x 47).toInt ≤ 2 * (I x 48).toInt) (hwi : I x 49 = 0) : CtI l yX12_readAnd cX12_readAnd 2 (some .boolean) { frames := 36, cells := 0, slots := 0, locals := 772 } D cy L κ ln R I J [.ref x] (fun r I2 J2 => Iw L κ R ow I2 ∧ Fq L κ ow [1205, 1206, 1207, 1208, 1209, 1210, 1211, 1213, 1247, 1248, 1249, 1250, 86600] I I2 ∧ Fq L κ ow [1212] J J2 ∧ Rg 0 1 r ∧ (¬ r = 0 → Sz_ x I I2 1) ∧ (I2 x 49 = 0)) := by
  obtain ⟨x_1, hx_1, rx_1⟩ := ex_getw (I := I) (a := x) (j := 47) (lo := 0) (hi := 60) hU.1 hLx (ro_o hkx (by decide)) rfl
  obtain ⟨x_2, hx_2, rx_2⟩ := ex_getw (I := I) (a := x) (j := 48) (lo := 0) (hi := 20) hU.1 hLx (ro_o hkx (by decide)) rfl
  rw [hx_1, hx_2] at hn
  obtain ⟨x_3, hx_3, rx_3⟩ := ex_getw (I := I) (a := x) (j := 50) (lo := 0) (hi := 59) hU.1 hLx (ro_o hkx (by decide)) rfl
  refine CtI.of (by decide +kernel) (Nat.le_of_ble_eq_true rfl) ?_
  intro p e s m below meth c B K
  have C := B.1
  have hF : Fq L κ ow [1205, 1206, 1207, 1208, 1209, 1210, 1211, 1213, 1247, 1248, 1249, 1250, 86600] I I := fq_rf
  have hG : Fq L κ ow [1212] J J := fq_rf
  refine g_lo (is := [0]) (lo2 := [(0, .ref x)]) rfl ?_
  have l_14 : ∀ (n_14 : Nat) (I_4 : Nat → Nat → Int32) (J_5 : Nat → Nat → Int64) (hU_6 : Iw L κ R ow I_4) (hF_7 : Fq L κ ow [1205, 1206, 1207, 1208, 1209, 1210, 1211, 1213, 1247, 1248, 1249, 1250, 86600] I I_4) (hG_8 : Fq L κ ow [1212] J J_5) (v_9 : Int32) (rv_9 : Rg 0 59 v_9) (v_10 : Int32) (rv_10 : Rg 0 60 v_10) (v_11 : Int32) (rv_11 : Rg 0 20 v_11) (v_12 : Int32) (rv_12 : Rg 0 59 v_12) (q_13 : I_4 x 47 = v_10) (q_14 : I_4 x 48 = v_11) (q_15 : I_4 x 49 = 0) (q_16 : I_4 x 50 = v_12) (hj_17 : x_1.toInt ≤ v_10.toInt ∧ x_2.toInt + 1 ≤ v_11.toInt ∧ 2 * x_2.toInt - x_1.toInt + 1 ≤ 2 * v_11.toInt - v_10.toInt ∧ v_9.toInt < v_10.toInt) (hm_18 : 20 < v_11.toInt + (n_14 : Int)), WG p l e { frames := 36, cells := 0, slots := 0, locals := 772 } s m ([.ref x] : List Value).toArray below meth c 2 0 0 (MQ below (Qi_ D cy L κ ln R (fun r I2 J2 => Iw L κ R ow I2 ∧ Fq L κ ow [1205, 1206, 1207, 1208, 1209, 1210, 1211, 1213, 1247, 1248, 1249, 1250, 86600] I I2 ∧ Fq L κ ow [1212] J J2 ∧ Rg 0 1 r ∧ (¬ r = 0 → Sz_ x I I2 1) ∧ (I2 x 49 = 0))) ([.ref x] : List Value).toArray s 0 0 (Al_ L)) D cy (Al_ L) s.heap L κ ln R I_4 J_5 14 [(0, .ref x), (1, .int v_9)] [] := by
    intro n_14
    induction n_14 with
    | zero =>
      intro I_4 J_5 hU_6 hF_7 hG_8 v_9 rv_9 v_10 rv_10 v_11 rv_11 v_12 rv_12 q_13 q_14 q_15 q_16 hj_17 hm_18
      exact absurd hm_18 (by have := (rv_11).2; omega)
    | succ n_14 ih_14 =>
      intro I_4 J_5 hU_6 hF_7 hG_8 v_9 rv_9 v_10 rv_10 v_11 rv_11 v_12 rv_12 q_13 q_14 q_15 q_16 hj_17 hm_18
      refine g_aload_n C 0 dX12_readAnd_14 rfl rfl ?_
      refine g_bipush C (v := 17) dX12_readAnd_15 (by decide) ?_
      refine g_callVI C K (c_X12_isWord W9 hLx hkx 17 (rg_w rc_17 (by decide) (by decide)) hU_6) hLx hkx (by decide) rfl v_12_191 rfl ⟨rfl, rfl⟩ ⟨Nat.le_of_ble_eq_true rfl, Nat.le_of_ble_eq_true rfl⟩ (Nat.le_of_ble_eq_true rfl) ⟨Nat.le_of_ble_eq_true rfl, Nat.le_of_ble_eq_true rfl⟩ dX12_readAnd_17 rfl (st := []) (fun x_19 I_20 J_21 h_22 => ?_)
      obtain ⟨rfl, rfl, rx_19, fx_19⟩ := h_22
      refine g_if_eq C (tgt := 51) dX12_readAnd_20 (by decide) (fun h_23 => ?_) (fun h_23 => ?_)
      · skip
        have r_24 := (⟨(rx_19).1, (eq_rg (h_23) rc_0).2⟩ : Rg 0 0 x_19)
        refine g_aload_n C 0 dX12_readAnd_51 rfl rfl ?_
        refine g_iload_n C 1 dX12_readAnd_52 rfl rfl ?_
        refine h_putI C K hLx hkx f_12_386 p_12_50 dX12_readAnd_53 (fun I_25 hI_25 => ?_)
        have hU_26 := iw_put W9 hU_6 hI_25 (ro_o hkx (by decide)) (lo := 0) (hi := 59) (rfl) (rv_9) rfl
        have hF_27 := fq_puto hF_7 hI_25 hkx (by decide) (by decide)
        refine g_iconst C (v := 1) dX12_readAnd_56 (by decide) ?_
        exact g_zret (ty := .boolean) (r := 1) B K rfl (rfl) ⟨hU_26, hF_27, hG_8, rg_w rc_1 (by decide) (by decide), (fun _ => (sz_m hx_1 hx_2 (kp_j hI_25 (by decide) q_13) (kp_j hI_25 (by decide) q_14) (kp_s hI_25) ⟨by omega, by omega, by omega, by omega⟩)), (kp_j hI_25 (by decide) q_15)⟩ dX12_readAnd_57
      · skip
        have n_28 : ¬ x_19 = 0 := h_23
        have r_29 := ne_lo (lo := 1) n_28 rx_19 rc_0 rfl (by decide)
        refine g_aload_n C 0 dX12_readAnd_23 rfl rfl ?_
        refine g_callVV C K (c_X12_go W9 hLx hkx   hU_6) hLx hkx (by decide) rfl v_12_156 rfl ⟨rfl, rfl⟩ ⟨Nat.le_of_ble_eq_true rfl, Nat.le_of_ble_eq_true rfl⟩ (Nat.le_of_ble_eq_true rfl) ⟨Nat.le_of_ble_eq_true rfl, Nat.le_of_ble_eq_true rfl⟩ dX12_readAnd_24 rfl (st := []) (fun I_31 J_32 h_33 => ?_)
        obtain ⟨hUI_31, hFI_31, hGJ_32, fx_30, ex_30⟩ := h_33
        have hF_34 := fq_tr hF_7 hFI_31 (by decide)
        have hG_35 := fq_tr hG_8 hGJ_32 (by decide)
        refine g_aload_n C 0 dX12_readAnd_27 rfl rfl ?_
        refine g_callVI C K (c_X12_readSaid_0 W9 hLx hkx   hUI_31  (by rw [(fq_at hFI_31 hLx hkx (by decide) (by decide) q_13), (fq_at hFI_31 hLx hkx (by decide) (by decide) q_14)]; omega) ((fq_at hFI_31 hLx hkx (by decide) (by decide) q_15))) hLx hkx (by decide) rfl v_12_392 rfl ⟨rfl, rfl⟩ ⟨Nat.le_of_ble_eq_true rfl, Nat.le_of_ble_eq_true rfl⟩ (Nat.le_of_ble_eq_true rfl) ⟨Nat.le_of_ble_eq_true rfl, Nat.le_of_ble_eq_true rfl⟩ dX12_readAnd_28 rfl (st := []) (fun x_36 I_37 J_38 h_39 => ?_)
        obtain ⟨hUI_37, hFI_37, hGJ_38, rx_36, ex_36⟩ := h_39
        have hF_40 := fq_tr hF_34 hFI_37 (by decide)
        have hG_41 := fq_tr hG_35 hGJ_38 (by decide)
        obtain ⟨x_42, hx_42, rx_42⟩ := ex_getw (I := I_37) (a := x) (j := 47) (lo := 0) (hi := 60) hUI_37.1 hLx (ro_o hkx (by decide)) rfl
        obtain ⟨x_43, hx_43, rx_43⟩ := ex_getw (I := I_37) (a := x) (j := 50) (lo := 0) (hi := 59) hUI_37.1 hLx (ro_o hkx (by decide)) rfl
        obtain ⟨x_44, hx_44, rx_44⟩ := ex_getw (I := I_37) (a := x) (j := 48) (lo := 0) (hi := 20) hUI_37.1 hLx (ro_o hkx (by decide)) rfl
        refine g_if_ne C (tgt := 36) dX12_readAnd_31 (by decide) (fun h_45 => ?_) (fun h_45 => ?_)
        · skip
          have n_46 : ¬ x_36 = 0 := h_45
          have r_47 := ne_lo (lo := 1) n_46 rx_36 rc_0 rfl (by decide)
          have f_48 := sz_v (fq_at hFI_31 hLx hkx (by decide) (by decide) q_13) (fq_at hFI_31 hLx hkx (by decide) (by decide) q_14) hx_42 hx_44 hx_43 (ex_36.1 n_46)
          refine g_aload_n C 0 dX12_readAnd_36 rfl rfl ?_
          refine g_iconst C (v := 2) dX12_readAnd_37 (by decide) ?_
          refine g_iload_n C 1 dX12_readAnd_38 rfl rfl ?_
          refine g_aload_n C 0 dX12_readAnd_39 rfl rfl ?_
          refine g_getI C K hLx hkx f_12_386 (v := x_43) hx_43 dX12_readAnd_40 ?_
          refine g_iconst C (v := 0) dX12_readAnd_43 (by decide) ?_
          have r_49 := (show Rg 0 59 x_42 from by have q1 := rx_42; have q2 := rx_44; unfold Rg at *; omega)
          refine g_callVI C K (c_X12_saysOne W9 hLx hkx 2 v_9 x_43 0 (rg_w rc_2 (by decide) (by decide)) (rv_9) (rg_w rx_43 (by decide) (by decide)) hUI_37  (eq_rg hx_42 (r_49)) (by rw [hx_42]; exact ⟨fun _ => ⟨by have := (rv_9).1; omega, by omega⟩, fun _ => ⟨by have := (rx_43).1; omega, by omega⟩, fun q => absurd q (by decide)⟩)) hLx hkx (by decide) rfl v_12_389 rfl ⟨rfl, rfl⟩ ⟨Nat.le_of_ble_eq_true rfl, Nat.le_of_ble_eq_true rfl⟩ (Nat.le_of_ble_eq_true rfl) ⟨Nat.le_of_ble_eq_true rfl, Nat.le_of_ble_eq_true rfl⟩ dX12_readAnd_44 rfl (st := []) (fun x_50 I_51 J_52 h_53 => ?_)
          obtain ⟨hUI_51, hFI_51, hGJ_52, rx_50, ex_50⟩ := h_53
          have hF_54 := fq_tr hF_40 hFI_51 (by decide)
          have hG_55 := fq_tr hG_41 hGJ_52 (by decide)
          obtain ⟨x_56, hx_56, rx_56, tx_56, ux_56⟩ := sa_b (lo := 1) (hi := 60) ex_50 hx_42 r_49 (by decide) (by decide)
          have r_57 := (show Rg 0 59 x_50 from by have q1 := ux_56; have q2 := r_49; unfold Rg at *; omega)
          refine g_istore_n C dX12_readAnd_47 rfl (by decide) (lo2 := [(1, .int x_50), (0, .ref x)]) rfl ?_
          refine g_goto C (tgt := 14) dX12_readAnd_48 (by decide) ?_
          refine g_lo (is := [1, 0]) (lo2 := [(0, .ref x), (1, .int x_50)]) rfl ?_
          exact ih_14 I_51 J_52 hUI_51 hF_54 hG_55 x_50 (r_57) x_56 (rg_w rx_56 (by decide) (by decide)) x_44 (rx_44) x_43 (rx_43) hx_56 (fq_at hFI_51 hLx hkx (by decide) (by decide) hx_44) (fq_at hFI_51 hLx hkx (by decide) (by decide) ex_36.2) (fq_at hFI_51 hLx hkx (by decide) (by decide) hx_43) ⟨by have := tx_56; omega, by have := tx_56; omega, by have := tx_56; omega, by have := tx_56; omega⟩ (by have q9 := hm_18; have := tx_56; omega)
        · skip
          have r_58 := (⟨(rx_36).1, (eq_rg (h_45) rc_0).2⟩ : Rg 0 0 x_36)
          refine g_iconst C (v := 0) dX12_readAnd_34 (by decide) ?_
          exact g_zret (ty := .boolean) (r := 0) B K rfl (rfl) ⟨hUI_37, hF_40, hG_41, rg_w rc_0 (by decide) (by decide), (fun q => absurd rfl q), ex_36.2⟩ dX12_readAnd_35
  refine g_aload_n C 0 dX12_readAnd_0 rfl rfl ?_
  refine g_callVI C K (c_X12_readSaid_0 W9 hLx hkx   hU  (by rw [hx_1, hx_2]; omega) (hwi)) hLx hkx (by decide) rfl v_12_392 rfl ⟨rfl, rfl⟩ ⟨Nat.le_of_ble_eq_true rfl, Nat.le_of_ble_eq_true rfl⟩ (Nat.le_of_ble_eq_true rfl) ⟨Nat.le_of_ble_eq_true rfl, Nat.le_of_ble_eq_true rfl⟩ dX12_readAnd_1 rfl (st := []) (fun x_59 I_60 J_61 h_62 => ?_)
  obtain ⟨hUI_60, hFI_60, hGJ_61, rx_59, ex_59⟩ := h_62
  have hF_63 := fq_tr hF hFI_60 (by decide)
  have hG_64 := fq_tr hG hGJ_61 (by decide)
  obtain ⟨x_65, hx_65, rx_65⟩ := ex_getw (I := I_60) (a := x) (j := 47) (lo := 0) (hi := 60) hUI_60.1 hLx (ro_o hkx (by decide)) rfl
  obtain ⟨x_66, hx_66, rx_66⟩ := ex_getw (I := I_60) (a := x) (j := 50) (lo := 0) (hi := 59) hUI_60.1 hLx (ro_o hkx (by decide)) rfl
  obtain ⟨x_67, hx_67, rx_67⟩ := ex_getw (I := I_60) (a := x) (j := 48) (lo := 0) (hi := 20) hUI_60.1 hLx (ro_o hkx (by decide)) rfl
  refine g_if_ne C (tgt := 9) dX12_readAnd_4 (by decide) (fun h_68 => ?_) (fun h_68 => ?_)
  · skip
    have n_69 : ¬ x_59 = 0 := h_68
    have r_70 := ne_lo (lo := 1) n_69 rx_59 rc_0 rfl (by decide)
    have f_71 := sz_v hx_1 hx_2 hx_65 hx_67 hx_66 (ex_59.1 n_69)
    refine g_aload_n C 0 dX12_readAnd_9 rfl rfl ?_
    refine g_getI C K hLx hkx f_12_386 (v := x_66) hx_66 dX12_readAnd_10 ?_
    refine g_istore_n C dX12_readAnd_13 rfl (by decide) (lo2 := [(1, .int x_66), (0, .ref x)]) rfl ?_
    refine g_lo (is := [1, 0]) (lo2 := [(0, .ref x), (1, .int x_66)]) rfl ?_
    exact l_14 21 I_60 J_61 hUI_60 hF_63 hG_64 x_66 (rx_66) x_65 (rx_65) x_67 (rx_67) x_66 (rx_66) hx_65 hx_67 ex_59.2 hx_66 ⟨by omega, by omega, by omega, by omega⟩ (by have := (rx_67).1; omega)
  · skip
    have r_72 := (⟨(rx_59).1, (eq_rg (h_68) rc_0).2⟩ : Rg 0 0 x_59)
    refine g_iconst C (v := 0) dX12_readAnd_7 (by decide) ?_
    exact g_zret (ty := .boolean) (r := 0) B K rfl (rfl) ⟨hUI_60, hF_63, hG_64, rg_w rc_0 (by decide) (by decide), (fun q => absurd rfl q), ex_59.2⟩ dX12_readAnd_8
