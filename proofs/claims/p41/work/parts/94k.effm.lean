set_option maxRecDepth 100000 in
set_option maxHeartbeats 8000000 in
theorem c_X12_isIn_k {l : Launch} {D : va_G} {cy : Nat → ClassId} {L : List Nat} {κ ln : Nat → Nat} {R : Nat → Nat → Option Nat} {I : Nat → Nat → Int32} {J : Nat → Nat → Int64} {ow : Nat → Nat × Nat} (W9 : ∀ a ∈ L, Shp L κ ln R ow a) (a0 : Int32) (a1 : Int32) (a2 : Int32) (hU : Iw L κ R ow I) : CtI l yX12_isIn cX12_isIn 3 (some .boolean) { frames := 0, cells := 0, slots := 0, locals := 0 } D cy L κ ln R I J [.int a0, .int a1, .int a2] (fun r I2 J2 => I = I2 ∧ J = J2 ∧ Rg 0 1 r ∧ (r = 0 → a0.toInt < a1.toInt ∨ a2.toInt < a0.toInt) ∧ (¬ r = 0 → a1 ≤ a0) ∧ (¬ r = 0 → a0 ≤ a2)) := by
  refine CtI.of (by decide +kernel) (Nat.le_of_ble_eq_true rfl) ?_
  intro p e s m below meth c B K
  have C := B.1
  refine g_lo (is := [0, 1, 2]) (lo2 := [(0, .int a0), (1, .int a1), (2, .int a2)]) rfl ?_
  refine g_iload_n C 0 dX12_isIn_0 rfl rfl ?_
  refine g_iload_n C 1 dX12_isIn_1 rfl rfl ?_
  refine g_icmp_lt C (tgt := 14) dX12_isIn_2 (by decide) (fun h_1 => ?_) (fun h_1 => ?_)
  · skip
    have r_2 := lt_l (hi := 2147483646) (h_1) (rg_all a0) (rg_all a1) (by decide)
    have r_3 := lt_r (lo := (-2147483647)) (h_1) (rg_all a0) (rg_all a1) (by decide)
    refine g_iconst C (v := 0) dX12_isIn_14 (by decide) ?_
    exact g_zret (ty := .boolean) (r := 0) B K rfl (rfl) ⟨rfl, rfl, rg_w rc_0 (by decide) (by decide), (fun _ => Or.inl (Int32.lt_iff_toInt_lt.mp (h_1))), (fun q => absurd rfl q), (fun q => absurd rfl q)⟩ dX12_isIn_15
  · skip
    refine g_iload_n C 0 dX12_isIn_5 rfl rfl ?_
    refine g_iload_n C 2 dX12_isIn_6 rfl rfl ?_
    refine g_icmp_gt C (tgt := 14) dX12_isIn_7 (by decide) (fun h_4 => ?_) (fun h_4 => ?_)
    · skip
      have r_5 := lt_l (hi := 2147483646) (h_4) (rg_all a2) (rg_all a0) (by decide)
      have r_6 := lt_r (lo := (-2147483647)) (h_4) (rg_all a2) (rg_all a0) (by decide)
      refine g_iconst C (v := 0) dX12_isIn_14 (by decide) ?_
      exact g_zret (ty := .boolean) (r := 0) B K rfl (rfl) ⟨rfl, rfl, rg_w rc_0 (by decide) (by decide), (fun _ => Or.inr (Int32.lt_iff_toInt_lt.mp (h_4))), (fun q => absurd rfl q), (fun q => absurd rfl q)⟩ dX12_isIn_15
    · skip
      refine g_iconst C (v := 1) dX12_isIn_10 (by decide) ?_
      refine g_goto C (tgt := 15) dX12_isIn_11 (by decide) ?_
      exact g_zret (ty := .boolean) (r := 1) B K rfl (rfl) ⟨rfl, rfl, rg_w rc_1 (by decide) (by decide), (fun q => absurd q (by decide)), (fun _ => nlt h_1), (fun _ => nlt h_4)⟩ dX12_isIn_15
set_option maxRecDepth 100000 in
set_option maxHeartbeats 8000000 in
theorem c_X12_image_k {l : Launch} {D : va_G} {cy : Nat → ClassId} {L : List Nat} {κ ln : Nat → Nat} {R : Nat → Nat → Option Nat} {I : Nat → Nat → Int32} {J : Nat → Nat → Int64} {ow : Nat → Nat × Nat} (W9 : ∀ a ∈ L, Shp L κ ln R ow a) {x : Nat} (hLx : x ∈ L) (hkx : κ x = 12) (a0 : Int32) (hU : Iw L κ R ow I) : CtI l yX12_image cX12_image 3 (some .boolean) { frames := 1, cells := 0, slots := 0, locals := 22 } D cy L κ ln R I J [.ref x, .int a0] (fun r I2 J2 => Iw L κ R ow I2 ∧ Fq L κ ow [1200, 83600, 84200] I I2 ∧ Fq L κ ow [84100] J J2 ∧ Rg 0 1 r ∧ (∀ kp, R x 22 = some kp → Tm_ a0 (I kp 0) (I kp 1) (I2 kp 0) (I2 kp 1))) := by
  obtain ⟨b_1, hb_1, hb_1L, hb_1k, hb_1n, hb_1o⟩ := shp_a (W9 x hLx) hkx 22 16 2 rfl (by decide)
  refine CtI.of (by decide +kernel) (Nat.le_of_ble_eq_true rfl) ?_
  intro p e s m below meth c B K
  have C := B.1
  have hF : Fq L κ ow [1200, 83600, 84200] I I := fq_rf
  have hG : Fq L κ ow [84100] J J := fq_rf
  obtain ⟨b_2, hb_2, hb_2L, hb_2k, hb_2n, hb_2o⟩ := shp_a (W9 x hLx) hkx 21 15 26 rfl (by decide)
  obtain ⟨b_3, hb_3, hb_3L, hb_3k, hb_3n, hb_3o⟩ := shp_a (W9 x hLx) hkx 16 14 778 rfl (by decide)
  obtain ⟨b_4, hb_4, hb_4L, hb_4k, hb_4n, hb_4o⟩ := shp_a (W9 x hLx) hkx 14 14 389 rfl (by decide)
  obtain ⟨b_5, hb_5, hb_5L, hb_5k, hb_5n, hb_5o⟩ := shp_a (W9 x hLx) hkx 19 15 13 rfl (by decide)
  refine g_lo (is := [0, 1]) (lo2 := [(0, .ref x), (1, .int a0)]) rfl ?_
  have l_51 : ∀ (n_51 : Nat) (I_6 : Nat → Nat → Int32) (J_7 : Nat → Nat → Int64) (hU_8 : Iw L κ R ow I_6) (hF_9 : Fq L κ ow [1200, 83600, 84200] I I_6) (hG_10 : Fq L κ ow [84100] J J_7) (r_11 : Rg 0 1 a0) (v_12 : Int32) (rv_12 : Rg 0 13 v_12) (q_13 : I_6 x 0 = 0) (hj_14 : ∀ j, I_6 b_1 j = I b_1 j) (hm_15 : 13 < (v_12 : Int32).toInt + (n_51 : Int)), WG p l e { frames := 1, cells := 0, slots := 0, locals := 22 } s m ([.ref x, .int a0] : List Value).toArray below meth c 3 0 0 (MQ below (Qi_ D cy L κ ln R (fun r I2 J2 => Iw L κ R ow I2 ∧ Fq L κ ow [1200, 83600, 84200] I I2 ∧ Fq L κ ow [84100] J J2 ∧ Rg 0 1 r ∧ (∀ kp, R x 22 = some kp → Tm_ a0 (I kp 0) (I kp 1) (I2 kp 0) (I2 kp 1)))) ([.ref x, .int a0] : List Value).toArray s 0 0 (Al_ L)) D cy (Al_ L) s.heap L κ ln R I_6 J_7 51 [(0, .ref x), (1, .int a0), (2, .int v_12)] [] := by
    intro n_51
    induction n_51 with
    | zero =>
      intro I_6 J_7 hU_8 hF_9 hG_10 r_11 v_12 rv_12 q_13 hj_14 hm_15
      exact ms_0 rv_12 hm_15
    | succ n_51 ih_51 =>
      intro I_6 J_7 hU_8 hF_9 hG_10 r_11 v_12 rv_12 q_13 hj_14 hm_15
      refine g_iload_n C 2 dX12_image_51 rfl rfl ?_
      refine g_bipush C (v := 13) dX12_image_52 (by decide) ?_
      refine g_icmp_ge C (tgt := 80) dX12_image_54 (by decide) (fun h_16 => ?_) (fun h_16 => ?_)
      · skip
        have r_17 := le_r (h_16) rc_13 rv_12
        refine g_aload_n C 0 dX12_image_80 rfl rfl ?_
        refine g_getR C K hLx hkx f_12_38 hb_1 dX12_image_81 ?_
        refine g_iload_n C 1 dX12_image_84 rfl rfl ?_
        refine g_iconst C (v := 1) dX12_image_85 (by decide) ?_
        refine h_zast C K hb_1L hb_1k (a0.toNatClampNeg) (rfl) (ix_0 r_11 (by decide)) (ix_lt r_11 (by decide) hb_1n (by decide)) dX12_image_86 (fun I_18 hI_18 => ?_)
        have hU_19 := iw_put W9 hU_8 hI_18 (ro_a hb_1k (by decide) hb_1o hkx rfl) (lo := 0) (hi := 1) (rfl) (nar_zz _) rfl
        have hF_20 := fq_puta hF_9 hI_18 (ro_a hb_1k (by decide) hb_1o hkx rfl) (by decide) (by decide)
        refine g_iconst C (v := 1) dX12_image_87 (by decide) ?_
        exact g_zret (ty := .boolean) (r := 1) B K rfl (rfl) ⟨hU_19, hF_20, hG_10, rg_w rc_1 (by decide) (by decide), (fun kp hk => by rw [hb_1] at hk; cases hk; exact tm_m (rg_01 (r_11)) (by rw [hI_18, u2_s]; decide) (fun j hj => kp_j hI_18 hj (hj_14 j)))⟩ dX12_image_88
      · skip
        have r_21 := lt_l (hi := 12) (nle h_16) rv_12 rc_13 (by decide)
        refine g_aload_n C 0 dX12_image_57 rfl rfl ?_
        refine g_getR C K hLx hkx f_12_35 hb_2 dX12_image_58 ?_
        refine g_bipush C (v := 13) dX12_image_61 (by decide) ?_
        refine g_iload_n C 1 dX12_image_63 rfl rfl ?_
        obtain ⟨x_22, hx_22, rx_22, tx_22⟩ := ex_mulT 0 13 rc_13 r_11 (by decide) (by decide) (by decide) (by decide) (by decide)
        refine g_imul C (v := x_22) dX12_image_64 hx_22 ?_
        refine g_iload_n C 2 dX12_image_65 rfl rfl ?_
        obtain ⟨x_23, hx_23, rx_23, tx_23⟩ := ex_add 0 25 rx_22 r_21 (by decide) (by decide) (by decide) (by decide)
        refine g_iadd C (v := x_23) dX12_image_66 hx_23 ?_
        refine g_aload_n C 0 dX12_image_67 rfl rfl ?_
        refine g_getR C K hLx hkx f_12_28 hb_5 dX12_image_68 ?_
        refine g_iload_n C 2 dX12_image_71 rfl rfl ?_
        obtain ⟨y_24, hy_24⟩ : ∃ z, J_7 b_5 (v_12.toNatClampNeg) = z := ⟨_, rfl⟩
        refine h_lald C K hb_5L hb_5k (v := y_24) (v_12.toNatClampNeg) (rfl) (ix_0 r_21 (by decide)) (ix_lt r_21 (by decide) hb_5n (by decide)) hy_24 dX12_image_72 ?_
        refine h_last C K hb_2L hb_2k (x_23.toNatClampNeg) (rfl) (ix_0 rx_23 (by decide)) (ix_lt rx_23 (by decide) hb_2n (by decide)) dX12_image_73 (fun J_25 hJ_25 => ?_)
        have hG_26 := fq_puta hG_10 hJ_25 (ro_a hb_2k (by decide) hb_2o hkx rfl) (by decide) (by decide)
        obtain ⟨x_27, hx_27, rx_27, tx_27⟩ := ex_add (y := 1) 1 13 r_21 rc_1 (by decide) (by decide) (by decide) (by decide)
        refine g_iinc C dX12_image_74 (k := 2) (v := x_27) rfl hx_27 (by decide) (lo2 := [(2, .int x_27), (0, .ref x), (1, .int a0)]) rfl ?_
        refine g_goto C (tgt := 51) dX12_image_77 (by decide) ?_
        refine g_lo (is := [1, 2, 0]) (lo2 := [(0, .ref x), (1, .int a0), (2, .int x_27)]) rfl ?_
        exact ih_51 I_6 J_25 hU_8 hF_9 hG_26 (r_11) x_27 (rg_w rx_27 (by decide) (by decide)) q_13 (fun j => (hj_14 j)) (ms_1 hm_15 (ti_k tx_27 rc_1) (by decide))
  refine g_aload_n C 0 dX12_image_0 rfl rfl ?_
  refine g_iconst C (v := 0) dX12_image_1 (by decide) ?_
  refine h_putI C K hLx hkx f_12_82 p_12_0 dX12_image_2 (fun I_28 hI_28 => ?_)
  have hU_29 := iw_put W9 hU hI_28 (ro_o hkx (by decide)) (lo := (-2147483648)) (hi := 2147483647) (rfl) (rg_all _) rfl
  have hF_30 := fq_puto hF hI_28 hkx (by decide) (by decide)
  refine g_iload_n C 1 dX12_image_5 rfl rfl ?_
  refine g_iconst C (v := 0) dX12_image_6 (by decide) ?_
  refine g_iconst C (v := 1) dX12_image_7 (by decide) ?_
  refine g_callSI C K (c_X12_isIn_k W9 a0 0 1  hU_29) s_12_149 rfl ⟨rfl, rfl⟩ ⟨Nat.le_of_ble_eq_true rfl, Nat.le_of_ble_eq_true rfl⟩ (Nat.le_of_ble_eq_true rfl) ⟨Nat.le_of_ble_eq_true rfl, Nat.le_of_ble_eq_true rfl⟩ dX12_image_8 rfl (st := []) (fun x_31 I_32 J_33 h_34 => ?_)
  obtain ⟨rfl, rfl, rx_31, ex_31⟩ := h_34
  refine g_if_ne C (tgt := 16) dX12_image_11 (by decide) (fun h_35 => ?_) (fun h_35 => ?_)
  · skip
    have n_36 : ¬ x_31 = 0 := h_35
    have r_37 := ne_lo (lo := 1) n_36 rx_31 rc_0 rfl (by decide)
    have r_38 := le_r (((ex_31.2.1) n_36)) rc_0 (rg_all a0)
    have r_39 := le_l (((ex_31.2.2) n_36)) r_38 rc_1
    refine g_iconst C (v := 0) dX12_image_16 (by decide) ?_
    refine g_istore_n C dX12_image_17 rfl (by decide) (lo2 := [(2, .int 0), (0, .ref x), (1, .int a0)]) rfl ?_
    refine g_lo (is := [1, 2, 0]) (lo2 := [(0, .ref x), (1, .int a0), (2, .int 0)]) rfl ?_
    have ex_18 : ∀ (I_41 : Nat → Nat → Int32) (hI_41 : I_41 = cpn_ I_28 b_4 b_3 (0) (389 * a0.toNatClampNeg) 389) (v_40 : Int32) (rv_40 : Rg 389 389 v_40), WG p l e { frames := 1, cells := 0, slots := 0, locals := 22 } s m ([.ref x, .int a0] : List Value).toArray below meth c 3 0 0 (MQ below (Qi_ D cy L κ ln R (fun r I2 J2 => Iw L κ R ow I2 ∧ Fq L κ ow [1200, 83600, 84200] I I2 ∧ Fq L κ ow [84100] J J2 ∧ Rg 0 1 r ∧ (∀ kp, R x 22 = some kp → Tm_ a0 (I kp 0) (I kp 1) (I2 kp 0) (I2 kp 1)))) ([.ref x, .int a0] : List Value).toArray s 0 0 (Al_ L)) D cy (Al_ L) s.heap L κ ln R I_41 J 49 [(0, .ref x), (1, .int a0), (2, .int v_40)] [] := by
      intro I_41 hI_41 v_40 rv_40
      have hF_42 := fq_cpn hF_30 hI_41 (ro_a hb_3k (by decide) hb_3o hkx rfl) (by decide) (by decide)
      have hU_43 := uw_cpn hU_29.1 hb_4L hI_41 (ro_a hb_3k (by decide) hb_3o hkx rfl) (ro_a hb_4k (by decide) hb_4o hkx rfl) (fun i hi => by rw [bn_836, bn_834, show (389 * a0.toNatClampNeg + i) % 389 = 0 + i by omega]; exact ⟨Int.le_refl _, Int.le_refl _⟩)
      have hU_44 := iw_im (q0 := a0.toNatClampNeg) W9 hU_29 hU_43 hLx hkx hb_4 hb_3 hI_41
      refine g_iconst C (v := 0) dX12_image_49 (by decide) ?_
      refine g_istore_n C dX12_image_50 rfl (by decide) (lo2 := [(2, .int 0), (0, .ref x), (1, .int a0)]) rfl ?_
      refine g_lo (is := [1, 2, 0]) (lo2 := [(0, .ref x), (1, .int a0), (2, .int 0)]) rfl ?_
      exact l_51 14 I_41 J hU_44 hF_42 hG (r_39) 0 (rg_w rc_0 (by decide) (by decide)) (kp_cn (κ := κ) hI_41 (by rw [hkx, hb_3k]; decide) (kp_s hI_28)) (fun j => (kp_cm hI_41 (ro_a hb_1k (by decide) hb_1o hkx rfl) (ro_a hb_3k (by decide) hb_3o hkx rfl) (by decide) (kp_k (κ := κ) hI_28 (by rw [hb_1k, hkx]; decide) rfl))) (ms_s (a := 0) (b := 13) (N := 14) (rg_w rc_0 (by decide) (by decide)) (by decide))
    have l_18 : ∀ (m_18 : Nat) (v_45 : Int32) (I_46 : Nat → Nat → Int32), v_45.toInt + (m_18 : Int) = 389 → 0 ≤ v_45.toInt → I_46 = cpn_ I_28 b_4 b_3 (0) (389 * a0.toNatClampNeg) v_45.toNatClampNeg → WG p l e { frames := 1, cells := 0, slots := 0, locals := 22 } s m ([.ref x, .int a0] : List Value).toArray below meth c 3 0 0 (MQ below (Qi_ D cy L κ ln R (fun r I2 J2 => Iw L κ R ow I2 ∧ Fq L κ ow [1200, 83600, 84200] I I2 ∧ Fq L κ ow [84100] J J2 ∧ Rg 0 1 r ∧ (∀ kp, R x 22 = some kp → Tm_ a0 (I kp 0) (I kp 1) (I2 kp 0) (I2 kp 1)))) ([.ref x, .int a0] : List Value).toArray s 0 0 (Al_ L)) D cy (Al_ L) s.heap L κ ln R I_46 J 18 [(0, .ref x), (1, .int a0), (2, .int v_45)] [] := by
      intro m_18
      induction m_18 with
      | zero =>
        intro v_45 I_46 hk_18 h0_18 hI_46
        have rv_45 : Rg 389 389 v_45 := by unfold Rg; omega
        refine g_iload_n C 2 dX12_image_18 rfl rfl ?_
        refine g_sipush C (v := 389) dX12_image_19 (by decide) ?_
        refine g_icmp_ge C (tgt := 49) dX12_image_22 (by decide) (fun h_47 => ?_) (fun h_47 => ?_)
        · skip
          refine g_lo (is := [0, 1, 2]) (lo2 := [(0, .ref x), (1, .int a0), (2, .int v_45)]) rfl ?_
          exact ex_18 I_46 (hI_46.trans (congrArg (fun q => cpn_ I_28 b_4 b_3 (0) (389 * a0.toNatClampNeg) q) (show v_45.toNatClampNeg = 389 from by have := ix_n rv_45 (by decide); have := rv_45.1; have := rv_45.2; omega))) v_45 rv_45
        · skip
          have r_48 := lt_l (hi := 388) (nle h_47) rv_45 rc_389 (by decide)
          exact rg_no r_48 (by decide)
      | succ m_18 ih_18 =>
        intro v_45 I_46 hk_18 h0_18 hI_46
        have rv_45 : Rg 0 388 v_45 := by unfold Rg; omega
        refine g_iload_n C 2 dX12_image_18 rfl rfl ?_
        refine g_sipush C (v := 389) dX12_image_19 (by decide) ?_
        refine g_icmp_ge C (tgt := 49) dX12_image_22 (by decide) (fun h_49 => ?_) (fun h_49 => ?_)
        · skip
          have r_50 := le_r (h_49) rc_389 rv_45
          exact rg_no r_50 (by decide)
        · skip
          refine g_aload_n C 0 dX12_image_25 rfl rfl ?_
          refine g_getR C K hLx hkx f_12_19 hb_3 dX12_image_26 ?_
          refine g_sipush C (v := 389) dX12_image_29 (by decide) ?_
          refine g_iload_n C 1 dX12_image_32 rfl rfl ?_
          obtain ⟨x_51, hx_51, rx_51, tx_51⟩ := ex_mulT 0 389 rc_389 r_39 (by decide) (by decide) (by decide) (by decide) (by decide)
          refine g_imul C (v := x_51) dX12_image_33 hx_51 ?_
          refine g_iload_n C 2 dX12_image_34 rfl rfl ?_
          obtain ⟨x_52, hx_52, rx_52, tx_52⟩ := ex_add 0 777 rx_51 rv_45 (by decide) (by decide) (by decide) (by decide)
          refine g_iadd C (v := x_52) dX12_image_35 hx_52 ?_
          refine g_aload_n C 0 dX12_image_36 rfl rfl ?_
          refine g_getR C K hLx hkx f_12_13 hb_4 dX12_image_37 ?_
          refine g_iload_n C 2 dX12_image_40 rfl rfl ?_
          obtain ⟨x_53, hx_53, rx_53⟩ := ex_any (z0 := I_46 b_4 (v_45.toNatClampNeg))
          refine h_iald C K hb_4L hb_4k (v := x_53) (v_45.toNatClampNeg) (rfl) (ix_0 rv_45 (by decide)) (ix_lt rv_45 (by decide) hb_4n (by decide)) hx_53 dX12_image_41 ?_
          refine h_iast C K hb_3L hb_3k (x_52.toNatClampNeg) (rfl) (ix_0 rx_52 (by decide)) (ix_lt rx_52 (by decide) hb_3n (by decide)) dX12_image_42 (fun I_54 hI_54 => ?_)
          obtain ⟨x_55, hx_55, rx_55, tx_55⟩ := ex_add (y := 1) 1 389 rv_45 rc_1 (by decide) (by decide) (by decide) (by decide)
          refine g_iinc C dX12_image_43 (k := 2) (v := x_55) rfl hx_55 (by decide) (lo2 := [(2, .int x_55), (0, .ref x), (1, .int a0)]) rfl ?_
          refine g_goto C (tgt := 18) dX12_image_46 (by decide) ?_
          refine g_lo (is := [1, 2, 0]) (lo2 := [(0, .ref x), (1, .int a0), (2, .int x_55)]) rfl ?_
          have kk_18 : x_55.toNatClampNeg = v_45.toNatClampNeg + 1 := by have q1 := ix_n rv_45 (by decide); have q2 := (ti_k tx_55 rc_1); have q3 : x_55.toNatClampNeg = x_55.toInt.toNat := rfl; omega
          exact ih_18 x_55 I_54 (by have := (ti_k tx_55 rc_1); omega) (by have := (ti_k tx_55 rc_1); omega) (by rw [kk_18]; exact cpn_s hI_46 hx_53 hI_54 (show v_45.toNatClampNeg = (0) + v_45.toNatClampNeg from by omega) (show x_52.toNatClampNeg = (389 * a0.toNatClampNeg) + v_45.toNatClampNeg from by rw [nx_a tx_52 rx_51 rv_45 (by decide), nx_m (k := 389) tx_51 r_39 (by decide)] <;> omega) (Or.inl (ne_ro (ro_a hb_4k (by decide) hb_4o hkx rfl) (ro_a hb_3k (by decide) hb_3o hkx rfl) (by decide))))
    exact l_18 389 0 I_28 (by decide) (by decide) cpn_0
  · skip
    have r_56 := (⟨(rx_31).1, (eq_rg (h_35) rc_0).2⟩ : Rg 0 0 x_31)
    refine g_iconst C (v := 0) dX12_image_14 (by decide) ?_
    exact g_zret (ty := .boolean) (r := 0) B K rfl (rfl) ⟨hU_29, hF_30, hG, rg_w rc_0 (by decide) (by decide), (fun kp hk => by rw [hb_1] at hk; cases hk; exact Or.inr (Or.inr ⟨(fun e => absurd (ex_31.1 (rg_1k r_56 rc_0)) (by rw [e]; decide)), (fun e => absurd (ex_31.1 (rg_1k r_56 rc_0)) (by rw [e]; decide)), (kp_k (κ := κ) hI_28 (by rw [hb_1k, hkx]; decide) rfl), (kp_k (κ := κ) hI_28 (by rw [hb_1k, hkx]; decide) rfl)⟩))⟩ dX12_image_15
set_option maxRecDepth 100000 in
set_option maxHeartbeats 8000000 in
theorem c_X12_restore_k {l : Launch} {D : va_G} {cy : Nat → ClassId} {L : List Nat} {κ ln : Nat → Nat} {R : Nat → Nat → Option Nat} {I : Nat → Nat → Int32} {J : Nat → Nat → Int64} {ow : Nat → Nat × Nat} (W9 : ∀ a ∈ L, Shp L κ ln R ow a) {x : Nat} (hLx : x ∈ L) (hkx : κ x = 12) (a0 : Int32) (hU : Iw L κ R ow I) : CtI l yX12_restore cX12_restore 3 (some .boolean) { frames := 1, cells := 0, slots := 0, locals := 22 } D cy L κ ln R I J [.ref x, .int a0] (fun r I2 J2 => Iw L κ R ow I2 ∧ Fq L κ ow [1200, 1223, 83400] I I2 ∧ Fq L κ ow [83900] J J2 ∧ Rg 0 1 r ∧ (∀ kp, R x 22 = some kp → Tq_ a0 (I kp 0) (I kp 1) r)) := by
  obtain ⟨b_1, hb_1, hb_1L, hb_1k, hb_1n, hb_1o⟩ := shp_a (W9 x hLx) hkx 22 16 2 rfl (by decide)
  refine CtI.of (by decide +kernel) (Nat.le_of_ble_eq_true rfl) ?_
  intro p e s m below meth c B K
  have C := B.1
  have hF : Fq L κ ow [1200, 1223, 83400] I I := fq_rf
  have hG : Fq L κ ow [83900] J J := fq_rf
  obtain ⟨b_2, hb_2, hb_2L, hb_2k, hb_2n, hb_2o⟩ := shp_a (W9 x hLx) hkx 21 15 26 rfl (by decide)
  obtain ⟨b_3, hb_3, hb_3L, hb_3k, hb_3n, hb_3o⟩ := shp_a (W9 x hLx) hkx 16 14 778 rfl (by decide)
  obtain ⟨b_4, hb_4, hb_4L, hb_4k, hb_4n, hb_4o⟩ := shp_a (W9 x hLx) hkx 14 14 389 rfl (by decide)
  obtain ⟨b_5, hb_5, hb_5L, hb_5k, hb_5n, hb_5o⟩ := shp_a (W9 x hLx) hkx 19 15 13 rfl (by decide)
  refine g_lo (is := [0, 1]) (lo2 := [(0, .ref x), (1, .int a0)]) rfl ?_
  have l_60 : ∀ (n_60 : Nat) (I_6 : Nat → Nat → Int32) (J_7 : Nat → Nat → Int64) (hU_8 : Iw0 L κ R ow I_6) (hF_9 : Fq L κ ow [1200, 1223, 83400] I I_6) (hG_10 : Fq L κ ow [83900] J J_7) (r_11 : Rg 0 1 a0) (v_12 : Int32) (rv_12 : Rg 0 13 v_12) (q_13 : I_6 x 0 = 0) (hj_14 : ¬ I b_1 a0.toNatClampNeg = 0) (hm_15 : 13 < (v_12 : Int32).toInt + (n_60 : Int)), WG p l e { frames := 1, cells := 0, slots := 0, locals := 22 } s m ([.ref x, .int a0] : List Value).toArray below meth c 3 0 0 (MQ below (Qi_ D cy L κ ln R (fun r I2 J2 => Iw L κ R ow I2 ∧ Fq L κ ow [1200, 1223, 83400] I I2 ∧ Fq L κ ow [83900] J J2 ∧ Rg 0 1 r ∧ (∀ kp, R x 22 = some kp → Tq_ a0 (I kp 0) (I kp 1) r))) ([.ref x, .int a0] : List Value).toArray s 0 0 (Al_ L)) D cy (Al_ L) s.heap L κ ln R I_6 J_7 60 [(0, .ref x), (1, .int a0), (2, .int v_12)] [] := by
    intro n_60
    induction n_60 with
    | zero =>
      intro I_6 J_7 hU_8 hF_9 hG_10 r_11 v_12 rv_12 q_13 hj_14 hm_15
      exact ms_0 rv_12 hm_15
    | succ n_60 ih_60 =>
      intro I_6 J_7 hU_8 hF_9 hG_10 r_11 v_12 rv_12 q_13 hj_14 hm_15
      refine g_iload_n C 2 dX12_restore_60 rfl rfl ?_
      refine g_bipush C (v := 13) dX12_restore_61 (by decide) ?_
      refine g_icmp_ge C (tgt := 89) dX12_restore_63 (by decide) (fun h_16 => ?_) (fun h_16 => ?_)
      · skip
        have r_17 := le_r (h_16) rc_13 rv_12
        refine g_aload_n C 0 dX12_restore_89 rfl rfl ?_
        refine g_iconst C (v := 0) dX12_restore_90 (by decide) ?_
        refine h_putI C K hLx hkx f_12_228 p_12_23 dX12_restore_91 (fun I_18 hI_18 => ?_)
        have hU_19 := iw_z W9 hU_8 (uw_put hU_8.1 hI_18 (ro_o hkx (by decide)) (lo := 0) (hi := 8) (rfl) (rg_w rc_0 (by decide) (by decide))) hLx hkx hI_18
        have hF_20 := fq_puto hF_9 hI_18 hkx (by decide) (by decide)
        refine g_iconst C (v := 1) dX12_restore_94 (by decide) ?_
        exact g_zret (ty := .boolean) (r := 1) B K rfl (rfl) ⟨hU_19, hF_20, hG_10, rg_w rc_1 (by decide) (by decide), (fun kp hk => by rw [hb_1] at hk; cases hk; exact tq_m (rg_01 (r_11)) (Or.inr ⟨hj_14, rfl⟩))⟩ dX12_restore_95
      · skip
        have r_21 := lt_l (hi := 12) (nle h_16) rv_12 rc_13 (by decide)
        refine g_aload_n C 0 dX12_restore_66 rfl rfl ?_
        refine g_getR C K hLx hkx f_12_28 hb_5 dX12_restore_67 ?_
        refine g_iload_n C 2 dX12_restore_70 rfl rfl ?_
        refine g_aload_n C 0 dX12_restore_71 rfl rfl ?_
        refine g_getR C K hLx hkx f_12_35 hb_2 dX12_restore_72 ?_
        refine g_bipush C (v := 13) dX12_restore_75 (by decide) ?_
        refine g_iload_n C 1 dX12_restore_77 rfl rfl ?_
        obtain ⟨x_22, hx_22, rx_22, tx_22⟩ := ex_mulT 0 13 rc_13 r_11 (by decide) (by decide) (by decide) (by decide) (by decide)
        refine g_imul C (v := x_22) dX12_restore_78 hx_22 ?_
        refine g_iload_n C 2 dX12_restore_79 rfl rfl ?_
        obtain ⟨x_23, hx_23, rx_23, tx_23⟩ := ex_add 0 25 rx_22 r_21 (by decide) (by decide) (by decide) (by decide)
        refine g_iadd C (v := x_23) dX12_restore_80 hx_23 ?_
        obtain ⟨y_24, hy_24⟩ : ∃ z, J_7 b_2 (x_23.toNatClampNeg) = z := ⟨_, rfl⟩
        refine h_lald C K hb_2L hb_2k (v := y_24) (x_23.toNatClampNeg) (rfl) (ix_0 rx_23 (by decide)) (ix_lt rx_23 (by decide) hb_2n (by decide)) hy_24 dX12_restore_81 ?_
        refine h_last C K hb_5L hb_5k (v_12.toNatClampNeg) (rfl) (ix_0 r_21 (by decide)) (ix_lt r_21 (by decide) hb_5n (by decide)) dX12_restore_82 (fun J_25 hJ_25 => ?_)
        have hG_26 := fq_puta hG_10 hJ_25 (ro_a hb_5k (by decide) hb_5o hkx rfl) (by decide) (by decide)
        obtain ⟨x_27, hx_27, rx_27, tx_27⟩ := ex_add (y := 1) 1 13 r_21 rc_1 (by decide) (by decide) (by decide) (by decide)
        refine g_iinc C dX12_restore_83 (k := 2) (v := x_27) rfl hx_27 (by decide) (lo2 := [(2, .int x_27), (0, .ref x), (1, .int a0)]) rfl ?_
        refine g_goto C (tgt := 60) dX12_restore_86 (by decide) ?_
        refine g_lo (is := [1, 2, 0]) (lo2 := [(0, .ref x), (1, .int a0), (2, .int x_27)]) rfl ?_
        exact ih_60 I_6 J_25 hU_8 hF_9 hG_26 (r_11) x_27 (rg_w rx_27 (by decide) (by decide)) q_13 hj_14 (ms_1 hm_15 (ti_k tx_27 rc_1) (by decide))
  refine g_aload_n C 0 dX12_restore_0 rfl rfl ?_
  refine g_iconst C (v := 0) dX12_restore_1 (by decide) ?_
  refine h_putI C K hLx hkx f_12_82 p_12_0 dX12_restore_2 (fun I_28 hI_28 => ?_)
  have hU_29 := iw_put W9 hU hI_28 (ro_o hkx (by decide)) (lo := (-2147483648)) (hi := 2147483647) (rfl) (rg_all _) rfl
  have hF_30 := fq_puto hF hI_28 hkx (by decide) (by decide)
  refine g_iload_n C 1 dX12_restore_5 rfl rfl ?_
  refine g_iconst C (v := 0) dX12_restore_6 (by decide) ?_
  refine g_iconst C (v := 1) dX12_restore_7 (by decide) ?_
  refine g_callSI C K (c_X12_isIn_k W9 a0 0 1  hU_29) s_12_149 rfl ⟨rfl, rfl⟩ ⟨Nat.le_of_ble_eq_true rfl, Nat.le_of_ble_eq_true rfl⟩ (Nat.le_of_ble_eq_true rfl) ⟨Nat.le_of_ble_eq_true rfl, Nat.le_of_ble_eq_true rfl⟩ dX12_restore_8 rfl (st := []) (fun x_31 I_32 J_33 h_34 => ?_)
  obtain ⟨rfl, rfl, rx_31, ex_31⟩ := h_34
  refine g_if_eq C (tgt := 23) dX12_restore_11 (by decide) (fun h_35 => ?_) (fun h_35 => ?_)
  · skip
    have r_36 := (⟨(rx_31).1, (eq_rg (h_35) rc_0).2⟩ : Rg 0 0 x_31)
    refine g_iconst C (v := 0) dX12_restore_23 (by decide) ?_
    exact g_zret (ty := .boolean) (r := 0) B K rfl (rfl) ⟨hU_29, hF_30, hG, rg_w rc_0 (by decide) (by decide), (fun kp hk => Or.inr (Or.inr ⟨(fun e => absurd (ex_31.1 (rg_1k r_36 rc_0)) (by rw [e]; decide)), (fun e => absurd (ex_31.1 (rg_1k r_36 rc_0)) (by rw [e]; decide)), rfl⟩))⟩ dX12_restore_24
  · skip
    have n_37 : ¬ x_31 = 0 := h_35
    have r_38 := ne_lo (lo := 1) n_37 rx_31 rc_0 rfl (by decide)
    have r_39 := le_r (((ex_31.2.1) n_37)) rc_0 (rg_all a0)
    have r_40 := le_l (((ex_31.2.2) n_37)) r_39 rc_1
    refine g_aload_n C 0 dX12_restore_14 rfl rfl ?_
    refine g_getR C K hLx hkx f_12_38 hb_1 dX12_restore_15 ?_
    refine g_iload_n C 1 dX12_restore_18 rfl rfl ?_
    obtain ⟨x_41, hx_41, rx_41⟩ := ex_getw (I := I_28) (a := b_1) (j := a0.toNatClampNeg) (lo := 0) (hi := 1) hU_29.1 hb_1L (ro_a hb_1k (by decide) hb_1o hkx rfl) (rfl)
    refine h_zald C K hb_1L hb_1k (v := x_41) (a0.toNatClampNeg) (rfl) (ix_0 r_40 (by decide)) (ix_lt r_40 (by decide) hb_1n (by decide)) hx_41 dX12_restore_19 ?_
    refine g_if_ne C (tgt := 25) dX12_restore_20 (by decide) (fun h_42 => ?_) (fun h_42 => ?_)
    · skip
      have n_43 : ¬ x_41 = 0 := h_42
      have r_44 := ne_lo (lo := 1) n_43 rx_41 rc_0 rfl (by decide)
      refine g_iconst C (v := 0) dX12_restore_25 (by decide) ?_
      refine g_istore_n C dX12_restore_26 rfl (by decide) (lo2 := [(2, .int 0), (0, .ref x), (1, .int a0)]) rfl ?_
      refine g_lo (is := [1, 2, 0]) (lo2 := [(0, .ref x), (1, .int a0), (2, .int 0)]) rfl ?_
      have ex_27 : ∀ (I_46 : Nat → Nat → Int32) (hI_46 : I_46 = cpn_ I_28 b_3 b_4 (389 * a0.toNatClampNeg) (0) 389) (v_45 : Int32) (rv_45 : Rg 389 389 v_45), WG p l e { frames := 1, cells := 0, slots := 0, locals := 22 } s m ([.ref x, .int a0] : List Value).toArray below meth c 3 0 0 (MQ below (Qi_ D cy L κ ln R (fun r I2 J2 => Iw L κ R ow I2 ∧ Fq L κ ow [1200, 1223, 83400] I I2 ∧ Fq L κ ow [83900] J J2 ∧ Rg 0 1 r ∧ (∀ kp, R x 22 = some kp → Tq_ a0 (I kp 0) (I kp 1) r))) ([.ref x, .int a0] : List Value).toArray s 0 0 (Al_ L)) D cy (Al_ L) s.heap L κ ln R I_46 J 58 [(0, .ref x), (1, .int a0), (2, .int v_45)] [] := by
        intro I_46 hI_46 v_45 rv_45
        have hF_47 := fq_cpn hF_30 hI_46 (ro_a hb_4k (by decide) hb_4o hkx rfl) (by decide) (by decide)
        have hU_48 := uw_cpn hU_29.1 hb_3L hI_46 (ro_a hb_4k (by decide) hb_4o hkx rfl) (ro_a hb_3k (by decide) hb_3o hkx rfl) (fun i hi => by rw [bn_834, bn_836, show (389 * a0.toNatClampNeg + i) % 389 = 0 + i by omega]; exact ⟨Int.le_refl _, Int.le_refl _⟩)
        have hU_49 := iw_rs (q0 := a0.toNatClampNeg) W9 hU_29 hU_48 hLx hkx hb_4 hb_3 (ix_lt (n := 2) (N := 2) r_40 (by decide) rfl (by decide)) hI_46
        refine g_iconst C (v := 0) dX12_restore_58 (by decide) ?_
        refine g_istore_n C dX12_restore_59 rfl (by decide) (lo2 := [(2, .int 0), (0, .ref x), (1, .int a0)]) rfl ?_
        refine g_lo (is := [1, 2, 0]) (lo2 := [(0, .ref x), (1, .int a0), (2, .int 0)]) rfl ?_
        exact l_60 14 I_46 J hU_49 hF_47 hG (r_40) 0 (rg_w rc_0 (by decide) (by decide)) (kp_cn (κ := κ) hI_46 (by rw [hkx, hb_4k]; decide) (kp_s hI_28)) (fun q => n_43 (Eq.trans hx_41.symm (Eq.trans (kp_k (κ := κ) hI_28 (by rw [hb_1k, hkx]; decide) rfl) q))) (ms_s (a := 0) (b := 13) (N := 14) (rg_w rc_0 (by decide) (by decide)) (by decide))
      have l_27 : ∀ (m_27 : Nat) (v_50 : Int32) (I_51 : Nat → Nat → Int32), v_50.toInt + (m_27 : Int) = 389 → 0 ≤ v_50.toInt → I_51 = cpn_ I_28 b_3 b_4 (389 * a0.toNatClampNeg) (0) v_50.toNatClampNeg → WG p l e { frames := 1, cells := 0, slots := 0, locals := 22 } s m ([.ref x, .int a0] : List Value).toArray below meth c 3 0 0 (MQ below (Qi_ D cy L κ ln R (fun r I2 J2 => Iw L κ R ow I2 ∧ Fq L κ ow [1200, 1223, 83400] I I2 ∧ Fq L κ ow [83900] J J2 ∧ Rg 0 1 r ∧ (∀ kp, R x 22 = some kp → Tq_ a0 (I kp 0) (I kp 1) r))) ([.ref x, .int a0] : List Value).toArray s 0 0 (Al_ L)) D cy (Al_ L) s.heap L κ ln R I_51 J 27 [(0, .ref x), (1, .int a0), (2, .int v_50)] [] := by
        intro m_27
        induction m_27 with
        | zero =>
          intro v_50 I_51 hk_27 h0_27 hI_51
          have rv_50 : Rg 389 389 v_50 := by unfold Rg; omega
          refine g_iload_n C 2 dX12_restore_27 rfl rfl ?_
          refine g_sipush C (v := 389) dX12_restore_28 (by decide) ?_
          refine g_icmp_ge C (tgt := 58) dX12_restore_31 (by decide) (fun h_52 => ?_) (fun h_52 => ?_)
          · skip
            refine g_lo (is := [0, 1, 2]) (lo2 := [(0, .ref x), (1, .int a0), (2, .int v_50)]) rfl ?_
            exact ex_27 I_51 (hI_51.trans (congrArg (fun q => cpn_ I_28 b_3 b_4 (389 * a0.toNatClampNeg) (0) q) (show v_50.toNatClampNeg = 389 from by have := ix_n rv_50 (by decide); have := rv_50.1; have := rv_50.2; omega))) v_50 rv_50
          · skip
            have r_53 := lt_l (hi := 388) (nle h_52) rv_50 rc_389 (by decide)
            exact rg_no r_53 (by decide)
        | succ m_27 ih_27 =>
          intro v_50 I_51 hk_27 h0_27 hI_51
          have rv_50 : Rg 0 388 v_50 := by unfold Rg; omega
          refine g_iload_n C 2 dX12_restore_27 rfl rfl ?_
          refine g_sipush C (v := 389) dX12_restore_28 (by decide) ?_
          refine g_icmp_ge C (tgt := 58) dX12_restore_31 (by decide) (fun h_54 => ?_) (fun h_54 => ?_)
          · skip
            have r_55 := le_r (h_54) rc_389 rv_50
            exact rg_no r_55 (by decide)
          · skip
            refine g_aload_n C 0 dX12_restore_34 rfl rfl ?_
            refine g_getR C K hLx hkx f_12_13 hb_4 dX12_restore_35 ?_
            refine g_iload_n C 2 dX12_restore_38 rfl rfl ?_
            refine g_aload_n C 0 dX12_restore_39 rfl rfl ?_
            refine g_getR C K hLx hkx f_12_19 hb_3 dX12_restore_40 ?_
            refine g_sipush C (v := 389) dX12_restore_43 (by decide) ?_
            refine g_iload_n C 1 dX12_restore_46 rfl rfl ?_
            obtain ⟨x_56, hx_56, rx_56, tx_56⟩ := ex_mulT 0 389 rc_389 r_40 (by decide) (by decide) (by decide) (by decide) (by decide)
            refine g_imul C (v := x_56) dX12_restore_47 hx_56 ?_
            refine g_iload_n C 2 dX12_restore_48 rfl rfl ?_
            obtain ⟨x_57, hx_57, rx_57, tx_57⟩ := ex_add 0 777 rx_56 rv_50 (by decide) (by decide) (by decide) (by decide)
            refine g_iadd C (v := x_57) dX12_restore_49 hx_57 ?_
            obtain ⟨x_58, hx_58, rx_58⟩ := ex_any (z0 := I_51 b_3 (x_57.toNatClampNeg))
            refine h_iald C K hb_3L hb_3k (v := x_58) (x_57.toNatClampNeg) (rfl) (ix_0 rx_57 (by decide)) (ix_lt rx_57 (by decide) hb_3n (by decide)) hx_58 dX12_restore_50 ?_
            refine h_iast C K hb_4L hb_4k (v_50.toNatClampNeg) (rfl) (ix_0 rv_50 (by decide)) (ix_lt rv_50 (by decide) hb_4n (by decide)) dX12_restore_51 (fun I_59 hI_59 => ?_)
            obtain ⟨x_60, hx_60, rx_60, tx_60⟩ := ex_add (y := 1) 1 389 rv_50 rc_1 (by decide) (by decide) (by decide) (by decide)
            refine g_iinc C dX12_restore_52 (k := 2) (v := x_60) rfl hx_60 (by decide) (lo2 := [(2, .int x_60), (0, .ref x), (1, .int a0)]) rfl ?_
            refine g_goto C (tgt := 27) dX12_restore_55 (by decide) ?_
            refine g_lo (is := [1, 2, 0]) (lo2 := [(0, .ref x), (1, .int a0), (2, .int x_60)]) rfl ?_
            have kk_27 : x_60.toNatClampNeg = v_50.toNatClampNeg + 1 := by have q1 := ix_n rv_50 (by decide); have q2 := (ti_k tx_60 rc_1); have q3 : x_60.toNatClampNeg = x_60.toInt.toNat := rfl; omega
            exact ih_27 x_60 I_59 (by have := (ti_k tx_60 rc_1); omega) (by have := (ti_k tx_60 rc_1); omega) (by rw [kk_27]; exact cpn_s hI_51 hx_58 hI_59 (show x_57.toNatClampNeg = (389 * a0.toNatClampNeg) + v_50.toNatClampNeg from by rw [nx_a tx_57 rx_56 rv_50 (by decide), nx_m (k := 389) tx_56 r_40 (by decide)] <;> omega) (show v_50.toNatClampNeg = (0) + v_50.toNatClampNeg from by omega) (Or.inl (ne_ro (ro_a hb_3k (by decide) hb_3o hkx rfl) (ro_a hb_4k (by decide) hb_4o hkx rfl) (by decide))))
      exact l_27 389 0 I_28 (by decide) (by decide) cpn_0
    · skip
      have r_61 := (⟨(rx_41).1, (eq_rg (h_42) rc_0).2⟩ : Rg 0 0 x_41)
      refine g_iconst C (v := 0) dX12_restore_23 (by decide) ?_
      exact g_zret (ty := .boolean) (r := 0) B K rfl (rfl) ⟨hU_29, hF_30, hG, rg_w rc_0 (by decide) (by decide), (fun kp hk => by rw [hb_1] at hk; cases hk; exact tq_m (rg_01 (r_40)) (Or.inl ⟨Eq.trans (Eq.symm (kp_k (κ := κ) hI_28 (by rw [hb_1k, hkx]; decide) rfl)) (Eq.trans hx_41 (rg_1k r_61 rc_0)), rfl⟩))⟩ dX12_restore_24
