theorem dX7_readOne_74 : decode cX7_readOne 74 = .ok (.aload_n 1, 1) := by decide +kernel
theorem dX7_readOne_75 : decode cX7_readOne 75 = .ok (.bipush 41, 2) := by decide +kernel
theorem dX7_readOne_77 : decode cX7_readOne 77 = .ok (.invokevirtual 50, 3) := by decide +kernel
theorem dX7_readOne_80 : decode cX7_readOne 80 = .ok (.ifCond .eq 7, 3) := by decide +kernel
theorem dX7_readOne_83 : decode cX7_readOne 83 = .ok (.iconst 1, 1) := by decide +kernel
theorem dX7_readOne_84 : decode cX7_readOne 84 = .ok (.goto 4, 3) := by decide +kernel
theorem dX7_readOne_108 : decode cX7_readOne 108 = .ok (.aload_n 0, 1) := by decide +kernel
theorem dX7_readOne_109 : decode cX7_readOne 109 = .ok (.bipush 19, 2) := by decide +kernel
theorem dX7_readOne_111 : decode cX7_readOne 111 = .ok (.iconst 0, 1) := by decide +kernel
theorem dX7_readOne_112 : decode cX7_readOne 112 = .ok (.iconst 0, 1) := by decide +kernel
theorem dX7_readOne_113 : decode cX7_readOne 113 = .ok (.invokevirtual 63, 3) := by decide +kernel
theorem dX7_readOne_116 : decode cX7_readOne 116 = .ok (.ifCond .eq 7, 3) := by decide +kernel
theorem dX7_readOne_119 : decode cX7_readOne 119 = .ok (.iconst 1, 1) := by decide +kernel
theorem dX7_readOne_120 : decode cX7_readOne 120 = .ok (.goto 4, 3) := by decide +kernel
set_option maxRecDepth 100000 in
set_option maxHeartbeats 8000000 in
theorem c_X7_readOne_7 {l : Launch} {D : va_G} {cy : Nat → ClassId} {L : List Nat} {κ ln : Nat → Nat} {R : Nat → Nat → Option Nat} {I : Nat → Nat → Int32} {J : Nat → Nat → Int64} {ow : Nat → Nat × Nat} (W9 : ∀ a ∈ L, Shp L κ ln R ow a) {x : Nat} (hLx : x ∈ L) (hkx : κ x = 7) {a0 : Nat} (hLa0 : a0 ∈ L) (hka0 : κ a0 = 10) {a1 : Nat} (hLa1 : a1 ∈ L) (hka1 : κ a1 = 8) (a2 : Int32) (ra2 : Rg 7 7 a2) (hU : Iv L κ R ow I) : CtI l yX7_readOne cX7_readOne 5 (some .boolean) { frames := 7, cells := 0, slots := 0, locals := 169 } D cy L κ ln R I J [.ref x, .ref a0, .ref a1, .int a2] (fun r I2 J2 => Iv L κ R ow I2 ∧ Fq L κ ow [704, 705, 1007, 1008, 1009, 1011, 1012, 52000, 52100, 52200] I I2 ∧ Fq L κ ow [1010] J J2 ∧ Rg 0 1 r) := by
  refine CtI.of (by decide +kernel) (Nat.le_of_ble_eq_true rfl) ?_
  intro p e s m below meth c B K
  have C := B.1
  have hF : Fq L κ ow [704, 705, 1007, 1008, 1009, 1011, 1012, 52000, 52100, 52200] I I := fq_rf
  have hG : Fq L κ ow [1010] J J := fq_rf
  refine g_lo (is := [0, 1, 2, 3]) (lo2 := [(0, .ref x), (1, .ref a0), (2, .ref a1), (3, .int a2)]) rfl ?_
  have j_35 : ∀ (I_1 : Nat → Nat → Int32) (J_2 : Nat → Nat → Int64) (hU_3 : Iv L κ R ow I_1) (hF_4 : Fq L κ ow [704, 705, 1007, 1008, 1009, 1011, 1012, 52000, 52100, 52200] I I_1) (hG_5 : Fq L κ ow [1010] J J_2) (v_6 : Int32) (rv_6 : Rg 7 7 v_6) (v_7 : Int32) (v_8 : Int32) (rv_8 : Rg 20 2147483647 v_8) (q_9 : I_1 a0 8 = v_7) (q_10 : I_1 x 5 = v_8), WG p l e { frames := 7, cells := 0, slots := 0, locals := 169 } s m ([.ref x, .ref a0, .ref a1, .int a2] : List Value).toArray below meth c 5 0 0 (MQ below (Qi_ D cy L κ ln R (fun r I2 J2 => Iv L κ R ow I2 ∧ Fq L κ ow [704, 705, 1007, 1008, 1009, 1011, 1012, 52000, 52100, 52200] I I2 ∧ Fq L κ ow [1010] J J2 ∧ Rg 0 1 r)) ([.ref x, .ref a0, .ref a1, .int a2] : List Value).toArray s 0 0 (Al_ L)) D cy (Al_ L) s.heap L κ ln R I_1 J_2 35 [(0, .ref x), (1, .ref a0), (2, .ref a1), (3, .int v_6), (4, .int v_7)] [] := by
    intro I_1 J_2 hU_3 hF_4 hG_5 v_6 rv_6 v_7 v_8 rv_8 q_9 q_10
    refine g_aload_n C 1 dX7_readOne_35 rfl rfl ?_
    refine g_iconst C (v := 4) dX7_readOne_36 (by decide) ?_
    refine g_callVI C K (c_X10_fail W9 hLa0 hka0 4 (rg_w rc_4 (by decide) (by decide)) hU_3) hLa0 hka0 (by decide) rfl v_7_73 rfl ⟨rfl, rfl⟩ ⟨Nat.le_of_ble_eq_true rfl, Nat.le_of_ble_eq_true rfl⟩ (Nat.le_of_ble_eq_true rfl) ⟨Nat.le_of_ble_eq_true rfl, Nat.le_of_ble_eq_true rfl⟩ dX7_readOne_37 rfl (st := []) (fun x_11 I_12 J_13 h_14 => ?_)
    obtain ⟨hUI_12, hFI_12, hGJ_13, rx_11, fx_11⟩ := h_14
    have hF_15 := fq_tr hF_4 hFI_12 (by decide)
    have hG_16 := fq_tr hG_5 hGJ_13 (by decide)
    exact g_zret (ty := .boolean) (r := x_11) B K rfl (nar_z (rg_w rx_11 (by decide) (by decide))) ⟨hUI_12, hF_15, hG_16, rg_w rx_11 (by decide) (by decide)⟩ dX7_readOne_40
  refine g_aload_n C 1 dX7_readOne_0 rfl rfl ?_
  obtain ⟨x_17, hx_17, rx_17⟩ := ex_get (I := I) (a := a0) (j := 8) (lo := (-2147483648)) (hi := 2147483647) hU.1 hLa0 (ro_o hka0 (by decide)) rfl
  refine g_getI C K hLa0 hka0 f_7_57 (v := x_17) hx_17 dX7_readOne_1 ?_
  refine g_istore C dX7_readOne_4 (by decide) (lo2 := [(4, .int x_17), (0, .ref x), (1, .ref a0), (2, .ref a1), (3, .int a2)]) rfl ?_
  refine g_iload C 0 dX7_readOne_6 rfl ?_
  refine g_callSI C K (c_X7_beginsOne W9 x_17  hU) s_7_70 rfl ⟨rfl, rfl⟩ ⟨Nat.le_of_ble_eq_true rfl, Nat.le_of_ble_eq_true rfl⟩ (Nat.le_of_ble_eq_true rfl) ⟨Nat.le_of_ble_eq_true rfl, Nat.le_of_ble_eq_true rfl⟩ dX7_readOne_8 rfl (st := []) (fun x_18 I_19 J_20 h_21 => ?_)
  obtain ⟨rfl, rfl, rx_18⟩ := h_21
  refine g_if_ne C (tgt := 20) dX7_readOne_11 (by decide) (fun h_22 => ?_) (fun h_22 => ?_)
  · skip
    have n_23 : ¬ x_18 = 0 := h_22
    have r_24 := ne_lo (lo := 1) n_23 rx_18 rc_0 rfl (by decide)
    refine g_aload_n C 1 dX7_readOne_20 rfl rfl ?_
    obtain ⟨x_25, hx_25, rx_25⟩ := ex_get (I := I) (a := x) (j := 5) (lo := (-2147483648)) (hi := 2147483647) hU.1 hLx (ro_o hkx (by decide)) rfl
    refine g_getI C K hLx hkx f_7_28 (v := x_25) hx_25 dX7_readOne_21 ?_
    refine g_bipush C (v := 20) dX7_readOne_24 (by decide) ?_
    refine g_icmp_ge C (tgt := 35) dX7_readOne_26 (by decide) (fun h_26 => ?_) (fun h_26 => ?_)
    · skip
      have r_27 := le_r (h_26) rc_20 rx_25
      refine g_lo (is := [1, 2, 3, 4, 0]) (lo2 := [(0, .ref x), (1, .ref a0), (2, .ref a1), (3, .int a2), (4, .int x_17)]) rfl ?_
      exact j_35 I J hU hF hG a2 (ra2) x_17 x_25 (r_27) hx_17 hx_25
    · skip
      have r_28 := lt_l (hi := 19) (nle h_26) rx_25 rc_20 (by decide)
      refine g_iload_n C 4 dX7_readOne_29 rfl rfl ?_
      refine g_bipush C (v := 8) dX7_readOne_30 (by decide) ?_
      refine g_icmp_le C (tgt := 41) dX7_readOne_32 (by decide) (fun h_29 => ?_) (fun h_29 => ?_)
      · skip
        refine g_aload_n C 1 dX7_readOne_41 rfl rfl ?_
        refine g_dup C dX7_readOne_42 rfl ?_
        refine g_getI C K hLx hkx f_7_28 (v := x_25) hx_25 dX7_readOne_43 ?_
        refine g_iconst C (v := 1) dX7_readOne_46 (by decide) ?_
        obtain ⟨x_30, hx_30, rx_30, tx_30⟩ := ex_add (-2147483647) 20 r_28 rc_1 (by decide) (by decide) (by decide) (by decide)
        refine g_iadd C (v := x_30) dX7_readOne_47 hx_30 ?_
        refine h_putI C K hLx hkx f_7_28 p_7_5 dX7_readOne_48 (fun I_31 hI_31 => ?_)
        have hU_32 := iv_put W9 hU hI_31 (ro_o hkx (by decide)) (lo := (-2147483648)) (hi := 2147483647) (rfl) (rg_all _) rfl
        have hF_33 := fq_puto hF hI_31 hkx (by decide) (by decide)
        refine g_aload_n C 2 dX7_readOne_51 rfl rfl ?_
        refine g_callVV C K (c_X10_advance W9 hLa0 hka0   hU_32) hLa0 hka0 (by decide) rfl v_7_60 rfl ⟨rfl, rfl⟩ ⟨Nat.le_of_ble_eq_true rfl, Nat.le_of_ble_eq_true rfl⟩ (Nat.le_of_ble_eq_true rfl) ⟨Nat.le_of_ble_eq_true rfl, Nat.le_of_ble_eq_true rfl⟩ dX7_readOne_52 rfl (st := []) (fun I_35 J_36 h_37 => ?_)
        obtain ⟨hUI_35, hFI_35, hGJ_36, fx_34⟩ := h_37
        have hF_38 := fq_tr hF_33 hFI_35 (by decide)
        have hG_39 := fq_tr hG hGJ_36 (by decide)
        refine g_iload C 0 dX7_readOne_55 rfl ?_
        refine g_bipush C (v := 40) dX7_readOne_57 (by decide) ?_
        refine g_icmp_ne C (tgt := 89) dX7_readOne_59 (by decide) (fun h_40 => ?_) (fun h_40 => ?_)
        · skip
          have n_41 : ¬ x_17 = 40 := h_40
          refine g_iload C 0 dX7_readOne_89 rfl ?_
          refine g_bipush C (v := 19) dX7_readOne_91 (by decide) ?_
          refine g_icmp_ne C (tgt := 125) dX7_readOne_93 (by decide) (fun h_42 => ?_) (fun h_42 => ?_)
          · skip
            have n_43 : ¬ x_17 = 19 := h_42
            refine g_aload_n C 1 dX7_readOne_125 rfl rfl ?_
            refine g_aload_n C 2 dX7_readOne_126 rfl rfl ?_
            refine g_aload_n C 3 dX7_readOne_127 rfl rfl ?_
            refine g_iload C 0 dX7_readOne_128 rfl ?_
            refine g_callVI C K (c_X7_readPlainOne W9 hLx hkx hLa0 hka0 hLa1 hka1 x_17  hUI_35) hLx hkx (by decide) rfl v_7_76 rfl ⟨rfl, rfl⟩ ⟨Nat.le_of_ble_eq_true rfl, Nat.le_of_ble_eq_true rfl⟩ (Nat.le_of_ble_eq_true rfl) ⟨Nat.le_of_ble_eq_true rfl, Nat.le_of_ble_eq_true rfl⟩ dX7_readOne_130 rfl (st := []) (fun x_44 I_45 J_46 h_47 => ?_)
            obtain ⟨hUI_45, hFI_45, hGJ_46, rx_44⟩ := h_47
            have hF_48 := fq_tr hF_38 hFI_45 (by decide)
            have hG_49 := fq_tr hG_39 hGJ_46 (by decide)
            exact g_zret (ty := .boolean) (r := x_44) B K rfl (nar_z (rx_44)) ⟨hUI_45, hF_48, hG_49, rx_44⟩ dX7_readOne_133
          · skip
            have r_50 := (⟨(eq_rg (h_42) rc_19).1, (eq_rg (h_42) rc_19).2⟩ : Rg 19 19 x_17)
            refine g_aload_n C 1 dX7_readOne_96 rfl rfl ?_
            refine g_aload_n C 2 dX7_readOne_97 rfl rfl ?_
            refine g_aload_n C 3 dX7_readOne_98 rfl rfl ?_
            refine g_iload_n C 4 dX7_readOne_99 rfl rfl ?_
            refine g_iconst C (v := 1) dX7_readOne_100 (by decide) ?_
            obtain ⟨x_51, hx_51, rx_51, tx_51⟩ := ex_add 8 8 ra2 rc_1 (by decide) (by decide) (by decide) (by decide)
            refine g_iadd C (v := x_51) dX7_readOne_101 hx_51 ?_
            refine g_callVI C K (c_X7_readOne_8 W9 hLx hkx hLa0 hka0 hLa1 hka1 x_51 (rx_51) hUI_35) hLx hkx (by decide) rfl v_7_67 rfl ⟨rfl, rfl⟩ ⟨Nat.le_of_ble_eq_true rfl, Nat.le_of_ble_eq_true rfl⟩ (Nat.le_of_ble_eq_true rfl) ⟨Nat.le_of_ble_eq_true rfl, Nat.le_of_ble_eq_true rfl⟩ dX7_readOne_102 rfl (st := []) (fun x_52 I_53 J_54 h_55 => ?_)
            obtain ⟨hUI_53, hFI_53, hGJ_54, rx_52⟩ := h_55
            have hF_56 := fq_tr hF_38 hFI_53 (by decide)
            have hG_57 := fq_tr hG_39 hGJ_54 (by decide)
            refine g_if_eq C (tgt := 123) dX7_readOne_105 (by decide) (fun h_58 => ?_) (fun h_58 => ?_)
            · skip
              have r_59 := (⟨(rx_52).1, (eq_rg (h_58) rc_0).2⟩ : Rg 0 0 x_52)
              refine g_iconst C (v := 0) dX7_readOne_123 (by decide) ?_
              exact g_zret (ty := .boolean) (r := 0) B K rfl (rfl) ⟨hUI_53, hF_56, hG_57, rg_w rc_0 (by decide) (by decide)⟩ dX7_readOne_124
            · skip
              have n_60 : ¬ x_52 = 0 := h_58
              have r_61 := ne_lo (lo := 1) n_60 rx_52 rc_0 rfl (by decide)
              refine g_aload_n C 1 dX7_readOne_108 rfl rfl ?_
              refine g_bipush C (v := 19) dX7_readOne_109 (by decide) ?_
              refine g_iconst C (v := 0) dX7_readOne_111 (by decide) ?_
              refine g_iconst C (v := 0) dX7_readOne_112 (by decide) ?_
              refine g_callVI C K (c_X7_addStep W9 hLx hkx 19 0 0 (rg_w rc_0 (by decide) (by decide)) hUI_53  (fun q => absurd q (by decide))) hLx hkx (by decide) rfl v_7_63 rfl ⟨rfl, rfl⟩ ⟨Nat.le_of_ble_eq_true rfl, Nat.le_of_ble_eq_true rfl⟩ (Nat.le_of_ble_eq_true rfl) ⟨Nat.le_of_ble_eq_true rfl, Nat.le_of_ble_eq_true rfl⟩ dX7_readOne_113 rfl (st := []) (fun x_62 I_63 J_64 h_65 => ?_)
              obtain ⟨hUI_63, hFI_63, hGJ_64, rx_62⟩ := h_65
              have hF_66 := fq_tr hF_56 hFI_63 (by decide)
              have hG_67 := fq_tr hG_57 hGJ_64 (by decide)
              refine g_if_eq C (tgt := 123) dX7_readOne_116 (by decide) (fun h_68 => ?_) (fun h_68 => ?_)
              · skip
                have r_69 := (⟨(rx_62).1, (eq_rg (h_68) rc_0).2⟩ : Rg 0 0 x_62)
                refine g_iconst C (v := 0) dX7_readOne_123 (by decide) ?_
                exact g_zret (ty := .boolean) (r := 0) B K rfl (rfl) ⟨hUI_63, hF_66, hG_67, rg_w rc_0 (by decide) (by decide)⟩ dX7_readOne_124
              · skip
                have n_70 : ¬ x_62 = 0 := h_68
                have r_71 := ne_lo (lo := 1) n_70 rx_62 rc_0 rfl (by decide)
                refine g_iconst C (v := 1) dX7_readOne_119 (by decide) ?_
                refine g_goto C (tgt := 124) dX7_readOne_120 (by decide) ?_
                exact g_zret (ty := .boolean) (r := 1) B K rfl (rfl) ⟨hUI_63, hF_66, hG_67, rg_w rc_1 (by decide) (by decide)⟩ dX7_readOne_124
        · skip
          have r_72 := (⟨(eq_rg (h_40) rc_40).1, (eq_rg (h_40) rc_40).2⟩ : Rg 40 40 x_17)
          refine g_aload_n C 1 dX7_readOne_62 rfl rfl ?_
          refine g_aload_n C 2 dX7_readOne_63 rfl rfl ?_
          refine g_aload_n C 3 dX7_readOne_64 rfl rfl ?_
          refine g_iload_n C 4 dX7_readOne_65 rfl rfl ?_
          refine g_iconst C (v := 1) dX7_readOne_66 (by decide) ?_
          obtain ⟨x_73, hx_73, rx_73, tx_73⟩ := ex_add 8 8 ra2 rc_1 (by decide) (by decide) (by decide) (by decide)
          refine g_iadd C (v := x_73) dX7_readOne_67 hx_73 ?_
          refine g_callVI C K (c_X7_readCond_8 W9 hLx hkx hLa0 hka0 hLa1 hka1 x_73 (rx_73) hUI_35) hLx hkx (by decide) rfl v_7_46 rfl ⟨rfl, rfl⟩ ⟨Nat.le_of_ble_eq_true rfl, Nat.le_of_ble_eq_true rfl⟩ (Nat.le_of_ble_eq_true rfl) ⟨Nat.le_of_ble_eq_true rfl, Nat.le_of_ble_eq_true rfl⟩ dX7_readOne_68 rfl (st := []) (fun x_74 I_75 J_76 h_77 => ?_)
          obtain ⟨hUI_75, hFI_75, hGJ_76, rx_74⟩ := h_77
          have hF_78 := fq_tr hF_38 hFI_75 (by decide)
          have hG_79 := fq_tr hG_39 hGJ_76 (by decide)
          refine g_if_eq C (tgt := 87) dX7_readOne_71 (by decide) (fun h_80 => ?_) (fun h_80 => ?_)
          · skip
            have r_81 := (⟨(rx_74).1, (eq_rg (h_80) rc_0).2⟩ : Rg 0 0 x_74)
            refine g_iconst C (v := 0) dX7_readOne_87 (by decide) ?_
            exact g_zret (ty := .boolean) (r := 0) B K rfl (rfl) ⟨hUI_75, hF_78, hG_79, rg_w rc_0 (by decide) (by decide)⟩ dX7_readOne_88
          · skip
            have n_82 : ¬ x_74 = 0 := h_80
            have r_83 := ne_lo (lo := 1) n_82 rx_74 rc_0 rfl (by decide)
            refine g_aload_n C 2 dX7_readOne_74 rfl rfl ?_
            refine g_bipush C (v := 41) dX7_readOne_75 (by decide) ?_
            refine g_callVI C K (c_X10_take W9 hLa0 hka0 41 (rg_w rc_41 (by decide) (by decide)) hUI_75) hLa0 hka0 (by decide) rfl v_7_50 rfl ⟨rfl, rfl⟩ ⟨Nat.le_of_ble_eq_true rfl, Nat.le_of_ble_eq_true rfl⟩ (Nat.le_of_ble_eq_true rfl) ⟨Nat.le_of_ble_eq_true rfl, Nat.le_of_ble_eq_true rfl⟩ dX7_readOne_77 rfl (st := []) (fun x_84 I_85 J_86 h_87 => ?_)
            obtain ⟨hUI_85, hFI_85, hGJ_86, rx_84, fx_84⟩ := h_87
            have hF_88 := fq_tr hF_78 hFI_85 (by decide)
            have hG_89 := fq_tr hG_79 hGJ_86 (by decide)
            refine g_if_eq C (tgt := 87) dX7_readOne_80 (by decide) (fun h_90 => ?_) (fun h_90 => ?_)
            · skip
              have r_91 := (⟨(rx_84).1, (eq_rg (h_90) rc_0).2⟩ : Rg 0 0 x_84)
              refine g_iconst C (v := 0) dX7_readOne_87 (by decide) ?_
              exact g_zret (ty := .boolean) (r := 0) B K rfl (rfl) ⟨hUI_85, hF_88, hG_89, rg_w rc_0 (by decide) (by decide)⟩ dX7_readOne_88
            · skip
              have n_92 : ¬ x_84 = 0 := h_90
              have r_93 := ne_lo (lo := 1) n_92 rx_84 rc_0 rfl (by decide)
              refine g_iconst C (v := 1) dX7_readOne_83 (by decide) ?_
              refine g_goto C (tgt := 88) dX7_readOne_84 (by decide) ?_
              exact g_zret (ty := .boolean) (r := 1) B K rfl (rfl) ⟨hUI_85, hF_88, hG_89, rg_w rc_1 (by decide) (by decide)⟩ dX7_readOne_88
      · skip
        have r_94 := lt_r (lo := 9) (nle h_29) rc_8 ra2 (by decide)
        exact rg_no r_94 (by decide)
  · skip
    have r_95 := (⟨(rx_18).1, (eq_rg (h_22) rc_0).2⟩ : Rg 0 0 x_18)
    refine g_aload_n C 2 dX7_readOne_14 rfl rfl ?_
    refine g_iconst C (v := 1) dX7_readOne_15 (by decide) ?_
    refine g_callVI C K (c_X10_fail W9 hLa0 hka0 1 (rg_w rc_1 (by decide) (by decide)) hU) hLa0 hka0 (by decide) rfl v_7_73 rfl ⟨rfl, rfl⟩ ⟨Nat.le_of_ble_eq_true rfl, Nat.le_of_ble_eq_true rfl⟩ (Nat.le_of_ble_eq_true rfl) ⟨Nat.le_of_ble_eq_true rfl, Nat.le_of_ble_eq_true rfl⟩ dX7_readOne_16 rfl (st := []) (fun x_96 I_97 J_98 h_99 => ?_)
    obtain ⟨hUI_97, hFI_97, hGJ_98, rx_96, fx_96⟩ := h_99
    have hF_100 := fq_tr hF hFI_97 (by decide)
    have hG_101 := fq_tr hG hGJ_98 (by decide)
    exact g_zret (ty := .boolean) (r := x_96) B K rfl (nar_z (rg_w rx_96 (by decide) (by decide))) ⟨hUI_97, hF_100, hG_101, rg_w rx_96 (by decide) (by decide)⟩ dX7_readOne_19
set_option maxRecDepth 100000 in
set_option maxHeartbeats 8000000 in
theorem c_X7_readAll_7 {l : Launch} {D : va_G} {cy : Nat → ClassId} {L : List Nat} {κ ln : Nat → Nat} {R : Nat → Nat → Option Nat} {I : Nat → Nat → Int32} {J : Nat → Nat → Int64} {ow : Nat → Nat × Nat} (W9 : ∀ a ∈ L, Shp L κ ln R ow a) {x : Nat} (hLx : x ∈ L) (hkx : κ x = 7) {a0 : Nat} (hLa0 : a0 ∈ L) (hka0 : κ a0 = 10) {a1 : Nat} (hLa1 : a1 ∈ L) (hka1 : κ a1 = 8) (a2 : Int32) (ra2 : Rg 7 7 a2) (hU : Iv L κ R ow I) : CtI l yX7_readAll cX7_readAll 6 (some .boolean) { frames := 8, cells := 0, slots := 0, locals := 193 } D cy L κ ln R I J [.ref x, .ref a0, .ref a1, .int a2] (fun r I2 J2 => Iv L κ R ow I2 ∧ Fq L κ ow [704, 705, 1007, 1008, 1009, 1011, 1012, 52000, 52100, 52200] I I2 ∧ Fq L κ ow [1010] J J2 ∧ Rg 0 1 r) := by
  refine CtI.of (by decide +kernel) (Nat.le_of_ble_eq_true rfl) ?_
  intro p e s m below meth c B K
  have C := B.1
  have hF : Fq L κ ow [704, 705, 1007, 1008, 1009, 1011, 1012, 52000, 52100, 52200] I I := fq_rf
  have hG : Fq L κ ow [1010] J J := fq_rf
  refine g_lo (is := [0, 1, 2, 3]) (lo2 := [(0, .ref x), (1, .ref a0), (2, .ref a1), (3, .int a2)]) rfl ?_
  have l_12 : ∀ (n_12 : Nat) (I_1 : Nat → Nat → Int32) (J_2 : Nat → Nat → Int64) (hU_3 : Iv L κ R ow I_1) (hF_4 : Fq L κ ow [704, 705, 1007, 1008, 1009, 1011, 1012, 52000, 52100, 52200] I I_1) (hG_5 : Fq L κ ow [1010] J J_2) (v_6 : Int32) (rv_6 : Rg 7 7 v_6) (v_7 : Int32) (rv_7 : Rg 0 1 v_7) (v_8 : Int32) (rv_8 : Rg 0 20 v_8) (hm_9 : 20 < (v_8 : Int32).toInt + (n_12 : Int)), WG p l e { frames := 8, cells := 0, slots := 0, locals := 193 } s m ([.ref x, .ref a0, .ref a1, .int a2] : List Value).toArray below meth c 6 0 0 (MQ below (Qi_ D cy L κ ln R (fun r I2 J2 => Iv L κ R ow I2 ∧ Fq L κ ow [704, 705, 1007, 1008, 1009, 1011, 1012, 52000, 52100, 52200] I I2 ∧ Fq L κ ow [1010] J J2 ∧ Rg 0 1 r)) ([.ref x, .ref a0, .ref a1, .int a2] : List Value).toArray s 0 0 (Al_ L)) D cy (Al_ L) s.heap L κ ln R I_1 J_2 12 [(0, .ref x), (1, .ref a0), (2, .ref a1), (3, .int v_6), (4, .int v_7), (5, .int v_8)] [] := by
    intro n_12
    induction n_12 with
    | zero =>
      intro I_1 J_2 hU_3 hF_4 hG_5 v_6 rv_6 v_7 rv_7 v_8 rv_8 hm_9
      exact ms_0 rv_8 hm_9
    | succ n_12 ih_12 =>
      intro I_1 J_2 hU_3 hF_4 hG_5 v_6 rv_6 v_7 rv_7 v_8 rv_8 hm_9
      have j_62 : ∀ (I_10 : Nat → Nat → Int32) (J_11 : Nat → Nat → Int64) (hU_12 : Iv L κ R ow I_10) (hF_13 : Fq L κ ow [704, 705, 1007, 1008, 1009, 1011, 1012, 52000, 52100, 52200] I I_10) (hG_14 : Fq L κ ow [1010] J J_11) (v_15 : Int32) (rv_15 : Rg 7 7 v_15) (v_16 : Int32) (rv_16 : Rg 1 1 v_16) (nv_16_0 : ¬ v_16 = 0) (v_17 : Int32) (rv_17 : Rg 0 19 v_17) (hm_18 : 20 < (v_17 : Int32).toInt + ((n_12 + 1 : Nat) : Int)), WG p l e { frames := 8, cells := 0, slots := 0, locals := 193 } s m ([.ref x, .ref a0, .ref a1, .int a2] : List Value).toArray below meth c 6 0 0 (MQ below (Qi_ D cy L κ ln R (fun r I2 J2 => Iv L κ R ow I2 ∧ Fq L κ ow [704, 705, 1007, 1008, 1009, 1011, 1012, 52000, 52100, 52200] I I2 ∧ Fq L κ ow [1010] J J2 ∧ Rg 0 1 r)) ([.ref x, .ref a0, .ref a1, .int a2] : List Value).toArray s 0 0 (Al_ L)) D cy (Al_ L) s.heap L κ ln R I_10 J_11 62 [(0, .ref x), (1, .ref a0), (2, .ref a1), (3, .int v_15), (4, .int v_16), (5, .int v_17)] [] := by
        intro I_10 J_11 hU_12 hF_13 hG_14 v_15 rv_15 v_16 rv_16 nv_16_0 v_17 rv_17 hm_18
        refine g_iconst C (v := 0) dX7_readAll_62 (by decide) ?_
        refine g_istore C dX7_readAll_63 (by decide) (lo2 := [(4, .int 0), (0, .ref x), (1, .ref a0), (2, .ref a1), (3, .int v_15), (5, .int v_17)]) rfl ?_
        obtain ⟨x_19, hx_19, rx_19, tx_19⟩ := ex_add (y := 1) 1 20 rv_17 rc_1 (by decide) (by decide) (by decide) (by decide)
        refine g_iinc C dX7_readAll_65 (k := 5) (v := x_19) rfl hx_19 (by decide) (lo2 := [(5, .int x_19), (4, .int 0), (0, .ref x), (1, .ref a0), (2, .ref a1), (3, .int v_15)]) rfl ?_
        refine g_goto C (tgt := 12) dX7_readAll_68 (by decide) ?_
        refine g_lo (is := [2, 3, 4, 5, 1, 0]) (lo2 := [(0, .ref x), (1, .ref a0), (2, .ref a1), (3, .int v_15), (4, .int 0), (5, .int x_19)]) rfl ?_
        exact ih_12 I_10 J_11 hU_12 hF_13 hG_14 v_15 (rv_15) 0 (rg_w rc_0 (by decide) (by decide)) x_19 (rg_w rx_19 (by decide) (by decide)) (ms_1 hm_18 (ti_k tx_19 rc_1) (by decide))
      refine g_iload C 5 dX7_readAll_12 rfl ?_
      refine g_bipush C (v := 20) dX7_readAll_14 (by decide) ?_
      refine g_icmp_ge C (tgt := 71) dX7_readAll_16 (by decide) (fun h_20 => ?_) (fun h_20 => ?_)
      · skip
        have r_21 := le_r (h_20) rc_20 rv_8
        refine g_iload C 4 dX7_readAll_71 rfl ?_
        exact g_zret (ty := .boolean) (r := v_7) B K rfl (nar_z (rv_7)) ⟨hU_3, hF_4, hG_5, rv_7⟩ dX7_readAll_73
      · skip
        have r_22 := lt_l (hi := 19) (nle h_20) rv_8 rc_20 (by decide)
        refine g_iload C 4 dX7_readAll_19 rfl ?_
        refine g_if_eq C (tgt := 71) dX7_readAll_21 (by decide) (fun h_23 => ?_) (fun h_23 => ?_)
        · skip
          have r_24 := (⟨(rv_7).1, (eq_rg (h_23) rc_0).2⟩ : Rg 0 0 v_7)
          refine g_iload C 4 dX7_readAll_71 rfl ?_
          exact g_zret (ty := .boolean) (r := v_7) B K rfl (nar_z (rg_w r_24 (by decide) (by decide))) ⟨hU_3, hF_4, hG_5, rg_w r_24 (by decide) (by decide)⟩ dX7_readAll_73
        · skip
          have n_25 : ¬ v_7 = 0 := h_23
          have r_26 := ne_lo (lo := 1) n_25 rv_7 rc_0 rfl (by decide)
          refine g_aload_n C 1 dX7_readAll_24 rfl rfl ?_
          obtain ⟨x_27, hx_27, rx_27⟩ := ex_get (I := I_1) (a := a0) (j := 8) (lo := (-2147483648)) (hi := 2147483647) hU_3.1 hLa0 (ro_o hka0 (by decide)) rfl
          refine g_getI C K hLa0 hka0 f_7_57 (v := x_27) hx_27 dX7_readAll_25 ?_
          refine g_bipush C (v := 18) dX7_readAll_28 (by decide) ?_
          refine g_icmp_ne C (tgt := 71) dX7_readAll_30 (by decide) (fun h_28 => ?_) (fun h_28 => ?_)
          · skip
            have n_29 : ¬ x_27 = 18 := h_28
            refine g_iload C 4 dX7_readAll_71 rfl ?_
            exact g_zret (ty := .boolean) (r := v_7) B K rfl (nar_z (rg_w r_26 (by decide) (by decide))) ⟨hU_3, hF_4, hG_5, rg_w r_26 (by decide) (by decide)⟩ dX7_readAll_73
          · skip
            have r_30 := (⟨(eq_rg (h_28) rc_18).1, (eq_rg (h_28) rc_18).2⟩ : Rg 18 18 x_27)
            refine g_aload_n C 1 dX7_readAll_33 rfl rfl ?_
            refine g_callVV C K (c_X10_advance W9 hLa0 hka0   hU_3) hLa0 hka0 (by decide) rfl v_7_60 rfl ⟨rfl, rfl⟩ ⟨Nat.le_of_ble_eq_true rfl, Nat.le_of_ble_eq_true rfl⟩ (Nat.le_of_ble_eq_true rfl) ⟨Nat.le_of_ble_eq_true rfl, Nat.le_of_ble_eq_true rfl⟩ dX7_readAll_34 rfl (st := []) (fun I_32 J_33 h_34 => ?_)
            obtain ⟨hUI_32, hFI_32, hGJ_33, fx_31⟩ := h_34
            have hF_35 := fq_tr hF_4 hFI_32 (by decide)
            have hG_36 := fq_tr hG_5 hGJ_33 (by decide)
            refine g_aload_n C 0 dX7_readAll_37 rfl rfl ?_
            refine g_aload_n C 1 dX7_readAll_38 rfl rfl ?_
            refine g_aload_n C 2 dX7_readAll_39 rfl rfl ?_
            refine g_iload_n C 3 dX7_readAll_40 rfl rfl ?_
            refine g_callVI C K (c_X7_readOne_7 W9 hLx hkx hLa0 hka0 hLa1 hka1 v_6 (rv_6) hUI_32) hLx hkx (by decide) rfl v_7_67 rfl ⟨rfl, rfl⟩ ⟨Nat.le_of_ble_eq_true rfl, Nat.le_of_ble_eq_true rfl⟩ (Nat.le_of_ble_eq_true rfl) ⟨Nat.le_of_ble_eq_true rfl, Nat.le_of_ble_eq_true rfl⟩ dX7_readAll_41 rfl (st := []) (fun x_37 I_38 J_39 h_40 => ?_)
            obtain ⟨hUI_38, hFI_38, hGJ_39, rx_37⟩ := h_40
            have hF_41 := fq_tr hF_35 hFI_38 (by decide)
            have hG_42 := fq_tr hG_36 hGJ_39 (by decide)
            refine g_if_eq C (tgt := 62) dX7_readAll_44 (by decide) (fun h_43 => ?_) (fun h_43 => ?_)
            · skip
              have r_44 := (⟨(rx_37).1, (eq_rg (h_43) rc_0).2⟩ : Rg 0 0 x_37)
              refine g_lo (is := [0, 1, 2, 3, 4, 5]) (lo2 := [(0, .ref x), (1, .ref a0), (2, .ref a1), (3, .int v_6), (4, .int v_7), (5, .int v_8)]) rfl ?_
              exact j_62 I_38 J_39 hUI_38 hF_41 hG_42 v_6 (rv_6) v_7 (r_26) (n_25) v_8 (r_22) hm_9
            · skip
              have n_45 : ¬ x_37 = 0 := h_43
              have r_46 := ne_lo (lo := 1) n_45 rx_37 rc_0 rfl (by decide)
              refine g_aload_n C 0 dX7_readAll_47 rfl rfl ?_
              refine g_bipush C (v := 18) dX7_readAll_48 (by decide) ?_
              refine g_iconst C (v := 0) dX7_readAll_50 (by decide) ?_
              refine g_iconst C (v := 0) dX7_readAll_51 (by decide) ?_
              refine g_callVI C K (c_X7_addStep W9 hLx hkx 18 0 0 (rg_w rc_0 (by decide) (by decide)) hUI_38  (fun q => absurd q (by decide))) hLx hkx (by decide) rfl v_7_63 rfl ⟨rfl, rfl⟩ ⟨Nat.le_of_ble_eq_true rfl, Nat.le_of_ble_eq_true rfl⟩ (Nat.le_of_ble_eq_true rfl) ⟨Nat.le_of_ble_eq_true rfl, Nat.le_of_ble_eq_true rfl⟩ dX7_readAll_52 rfl (st := []) (fun x_47 I_48 J_49 h_50 => ?_)
              obtain ⟨hUI_48, hFI_48, hGJ_49, rx_47⟩ := h_50
              have hF_51 := fq_tr hF_41 hFI_48 (by decide)
              have hG_52 := fq_tr hG_42 hGJ_49 (by decide)
              refine g_if_eq C (tgt := 62) dX7_readAll_55 (by decide) (fun h_53 => ?_) (fun h_53 => ?_)
              · skip
                have r_54 := (⟨(rx_47).1, (eq_rg (h_53) rc_0).2⟩ : Rg 0 0 x_47)
                refine g_lo (is := [0, 1, 2, 3, 4, 5]) (lo2 := [(0, .ref x), (1, .ref a0), (2, .ref a1), (3, .int v_6), (4, .int v_7), (5, .int v_8)]) rfl ?_
                exact j_62 I_48 J_49 hUI_48 hF_51 hG_52 v_6 (rv_6) v_7 (r_26) (n_25) v_8 (r_22) hm_9
              · skip
                have n_55 : ¬ x_47 = 0 := h_53
                have r_56 := ne_lo (lo := 1) n_55 rx_47 rc_0 rfl (by decide)
                refine g_iconst C (v := 1) dX7_readAll_58 (by decide) ?_
                refine g_goto C (tgt := 63) dX7_readAll_59 (by decide) ?_
                refine g_istore C dX7_readAll_63 (by decide) (lo2 := [(4, .int 1), (0, .ref x), (1, .ref a0), (2, .ref a1), (3, .int v_6), (5, .int v_8)]) rfl ?_
                obtain ⟨x_57, hx_57, rx_57, tx_57⟩ := ex_add (y := 1) 1 20 r_22 rc_1 (by decide) (by decide) (by decide) (by decide)
                refine g_iinc C dX7_readAll_65 (k := 5) (v := x_57) rfl hx_57 (by decide) (lo2 := [(5, .int x_57), (4, .int 1), (0, .ref x), (1, .ref a0), (2, .ref a1), (3, .int v_6)]) rfl ?_
                refine g_goto C (tgt := 12) dX7_readAll_68 (by decide) ?_
                refine g_lo (is := [2, 3, 4, 5, 1, 0]) (lo2 := [(0, .ref x), (1, .ref a0), (2, .ref a1), (3, .int v_6), (4, .int 1), (5, .int x_57)]) rfl ?_
                exact ih_12 I_48 J_49 hUI_48 hF_51 hG_52 v_6 (rv_6) 1 (rg_w rc_1 (by decide) (by decide)) x_57 (rg_w rx_57 (by decide) (by decide)) (ms_1 hm_9 (ti_k tx_57 rc_1) (by decide))
  refine g_aload_n C 0 dX7_readAll_0 rfl rfl ?_
  refine g_aload_n C 1 dX7_readAll_1 rfl rfl ?_
  refine g_aload_n C 2 dX7_readAll_2 rfl rfl ?_
  refine g_iload_n C 3 dX7_readAll_3 rfl rfl ?_
  refine g_callVI C K (c_X7_readOne_7 W9 hLx hkx hLa0 hka0 hLa1 hka1 a2 (ra2) hU) hLx hkx (by decide) rfl v_7_67 rfl ⟨rfl, rfl⟩ ⟨Nat.le_of_ble_eq_true rfl, Nat.le_of_ble_eq_true rfl⟩ (Nat.le_of_ble_eq_true rfl) ⟨Nat.le_of_ble_eq_true rfl, Nat.le_of_ble_eq_true rfl⟩ dX7_readAll_4 rfl (st := []) (fun x_58 I_59 J_60 h_61 => ?_)
  obtain ⟨hUI_59, hFI_59, hGJ_60, rx_58⟩ := h_61
  have hF_62 := fq_tr hF hFI_59 (by decide)
  have hG_63 := fq_tr hG hGJ_60 (by decide)
  refine g_istore C dX7_readAll_7 (by decide) (lo2 := [(4, .int x_58), (0, .ref x), (1, .ref a0), (2, .ref a1), (3, .int a2)]) rfl ?_
  refine g_iconst C (v := 0) dX7_readAll_9 (by decide) ?_
  refine g_istore C dX7_readAll_10 (by decide) (lo2 := [(5, .int 0), (4, .int x_58), (0, .ref x), (1, .ref a0), (2, .ref a1), (3, .int a2)]) rfl ?_
  refine g_lo (is := [2, 3, 4, 5, 1, 0]) (lo2 := [(0, .ref x), (1, .ref a0), (2, .ref a1), (3, .int a2), (4, .int x_58), (5, .int 0)]) rfl ?_
  exact l_12 21 I_59 J_60 hUI_59 hF_62 hG_63 a2 (ra2) x_58 (rx_58) 0 (rg_w rc_0 (by decide) (by decide)) (ms_s (a := 0) (b := 20) (N := 21) (rg_w rc_0 (by decide) (by decide)) (by decide))
set_option maxRecDepth 100000 in
set_option maxHeartbeats 8000000 in
theorem c_X7_readCond_7 {l : Launch} {D : va_G} {cy : Nat → ClassId} {L : List Nat} {κ ln : Nat → Nat} {R : Nat → Nat → Option Nat} {I : Nat → Nat → Int32} {J : Nat → Nat → Int64} {ow : Nat → Nat × Nat} (W9 : ∀ a ∈ L, Shp L κ ln R ow a) {x : Nat} (hLx : x ∈ L) (hkx : κ x = 7) {a0 : Nat} (hLa0 : a0 ∈ L) (hka0 : κ a0 = 10) {a1 : Nat} (hLa1 : a1 ∈ L) (hka1 : κ a1 = 8) (a2 : Int32) (ra2 : Rg 7 7 a2) (hU : Iv L κ R ow I) : CtI l yX7_readCond cX7_readCond 6 (some .boolean) { frames := 9, cells := 0, slots := 0, locals := 218 } D cy L κ ln R I J [.ref x, .ref a0, .ref a1, .int a2] (fun r I2 J2 => Iv L κ R ow I2 ∧ Fq L κ ow [704, 705, 1007, 1008, 1009, 1011, 1012, 52000, 52100, 52200] I I2 ∧ Fq L κ ow [1010] J J2 ∧ Rg 0 1 r) := by
  refine CtI.of (by decide +kernel) (Nat.le_of_ble_eq_true rfl) ?_
  intro p e s m below meth c B K
  have C := B.1
  have hF : Fq L κ ow [704, 705, 1007, 1008, 1009, 1011, 1012, 52000, 52100, 52200] I I := fq_rf
  have hG : Fq L κ ow [1010] J J := fq_rf
  refine g_lo (is := [0, 1, 2, 3]) (lo2 := [(0, .ref x), (1, .ref a0), (2, .ref a1), (3, .int a2)]) rfl ?_
  have l_12 : ∀ (n_12 : Nat) (I_1 : Nat → Nat → Int32) (J_2 : Nat → Nat → Int64) (hU_3 : Iv L κ R ow I_1) (hF_4 : Fq L κ ow [704, 705, 1007, 1008, 1009, 1011, 1012, 52000, 52100, 52200] I I_1) (hG_5 : Fq L κ ow [1010] J J_2) (v_6 : Int32) (rv_6 : Rg 7 7 v_6) (v_7 : Int32) (rv_7 : Rg 0 1 v_7) (v_8 : Int32) (rv_8 : Rg 0 20 v_8) (hm_9 : 20 < (v_8 : Int32).toInt + (n_12 : Int)), WG p l e { frames := 9, cells := 0, slots := 0, locals := 218 } s m ([.ref x, .ref a0, .ref a1, .int a2] : List Value).toArray below meth c 6 0 0 (MQ below (Qi_ D cy L κ ln R (fun r I2 J2 => Iv L κ R ow I2 ∧ Fq L κ ow [704, 705, 1007, 1008, 1009, 1011, 1012, 52000, 52100, 52200] I I2 ∧ Fq L κ ow [1010] J J2 ∧ Rg 0 1 r)) ([.ref x, .ref a0, .ref a1, .int a2] : List Value).toArray s 0 0 (Al_ L)) D cy (Al_ L) s.heap L κ ln R I_1 J_2 12 [(0, .ref x), (1, .ref a0), (2, .ref a1), (3, .int v_6), (4, .int v_7), (5, .int v_8)] [] := by
    intro n_12
    induction n_12 with
    | zero =>
      intro I_1 J_2 hU_3 hF_4 hG_5 v_6 rv_6 v_7 rv_7 v_8 rv_8 hm_9
      exact ms_0 rv_8 hm_9
    | succ n_12 ih_12 =>
      intro I_1 J_2 hU_3 hF_4 hG_5 v_6 rv_6 v_7 rv_7 v_8 rv_8 hm_9
      have j_62 : ∀ (I_10 : Nat → Nat → Int32) (J_11 : Nat → Nat → Int64) (hU_12 : Iv L κ R ow I_10) (hF_13 : Fq L κ ow [704, 705, 1007, 1008, 1009, 1011, 1012, 52000, 52100, 52200] I I_10) (hG_14 : Fq L κ ow [1010] J J_11) (v_15 : Int32) (rv_15 : Rg 7 7 v_15) (v_16 : Int32) (rv_16 : Rg 1 1 v_16) (nv_16_0 : ¬ v_16 = 0) (v_17 : Int32) (rv_17 : Rg 0 19 v_17) (hm_18 : 20 < (v_17 : Int32).toInt + ((n_12 + 1 : Nat) : Int)), WG p l e { frames := 9, cells := 0, slots := 0, locals := 218 } s m ([.ref x, .ref a0, .ref a1, .int a2] : List Value).toArray below meth c 6 0 0 (MQ below (Qi_ D cy L κ ln R (fun r I2 J2 => Iv L κ R ow I2 ∧ Fq L κ ow [704, 705, 1007, 1008, 1009, 1011, 1012, 52000, 52100, 52200] I I2 ∧ Fq L κ ow [1010] J J2 ∧ Rg 0 1 r)) ([.ref x, .ref a0, .ref a1, .int a2] : List Value).toArray s 0 0 (Al_ L)) D cy (Al_ L) s.heap L κ ln R I_10 J_11 62 [(0, .ref x), (1, .ref a0), (2, .ref a1), (3, .int v_15), (4, .int v_16), (5, .int v_17)] [] := by
        intro I_10 J_11 hU_12 hF_13 hG_14 v_15 rv_15 v_16 rv_16 nv_16_0 v_17 rv_17 hm_18
        refine g_iconst C (v := 0) dX7_readCond_62 (by decide) ?_
        refine g_istore C dX7_readCond_63 (by decide) (lo2 := [(4, .int 0), (0, .ref x), (1, .ref a0), (2, .ref a1), (3, .int v_15), (5, .int v_17)]) rfl ?_
        obtain ⟨x_19, hx_19, rx_19, tx_19⟩ := ex_add (y := 1) 1 20 rv_17 rc_1 (by decide) (by decide) (by decide) (by decide)
        refine g_iinc C dX7_readCond_65 (k := 5) (v := x_19) rfl hx_19 (by decide) (lo2 := [(5, .int x_19), (4, .int 0), (0, .ref x), (1, .ref a0), (2, .ref a1), (3, .int v_15)]) rfl ?_
        refine g_goto C (tgt := 12) dX7_readCond_68 (by decide) ?_
        refine g_lo (is := [2, 3, 4, 5, 1, 0]) (lo2 := [(0, .ref x), (1, .ref a0), (2, .ref a1), (3, .int v_15), (4, .int 0), (5, .int x_19)]) rfl ?_
        exact ih_12 I_10 J_11 hU_12 hF_13 hG_14 v_15 (rv_15) 0 (rg_w rc_0 (by decide) (by decide)) x_19 (rg_w rx_19 (by decide) (by decide)) (ms_1 hm_18 (ti_k tx_19 rc_1) (by decide))
      refine g_iload C 5 dX7_readCond_12 rfl ?_
      refine g_bipush C (v := 20) dX7_readCond_14 (by decide) ?_
      refine g_icmp_ge C (tgt := 71) dX7_readCond_16 (by decide) (fun h_20 => ?_) (fun h_20 => ?_)
      · skip
        have r_21 := le_r (h_20) rc_20 rv_8
        refine g_iload C 4 dX7_readCond_71 rfl ?_
        exact g_zret (ty := .boolean) (r := v_7) B K rfl (nar_z (rv_7)) ⟨hU_3, hF_4, hG_5, rv_7⟩ dX7_readCond_73
      · skip
        have r_22 := lt_l (hi := 19) (nle h_20) rv_8 rc_20 (by decide)
        refine g_iload C 4 dX7_readCond_19 rfl ?_
        refine g_if_eq C (tgt := 71) dX7_readCond_21 (by decide) (fun h_23 => ?_) (fun h_23 => ?_)
        · skip
          have r_24 := (⟨(rv_7).1, (eq_rg (h_23) rc_0).2⟩ : Rg 0 0 v_7)
          refine g_iload C 4 dX7_readCond_71 rfl ?_
          exact g_zret (ty := .boolean) (r := v_7) B K rfl (nar_z (rg_w r_24 (by decide) (by decide))) ⟨hU_3, hF_4, hG_5, rg_w r_24 (by decide) (by decide)⟩ dX7_readCond_73
        · skip
          have n_25 : ¬ v_7 = 0 := h_23
          have r_26 := ne_lo (lo := 1) n_25 rv_7 rc_0 rfl (by decide)
          refine g_aload_n C 1 dX7_readCond_24 rfl rfl ?_
          obtain ⟨x_27, hx_27, rx_27⟩ := ex_get (I := I_1) (a := a0) (j := 8) (lo := (-2147483648)) (hi := 2147483647) hU_3.1 hLa0 (ro_o hka0 (by decide)) rfl
          refine g_getI C K hLa0 hka0 f_7_57 (v := x_27) hx_27 dX7_readCond_25 ?_
          refine g_bipush C (v := 17) dX7_readCond_28 (by decide) ?_
          refine g_icmp_ne C (tgt := 71) dX7_readCond_30 (by decide) (fun h_28 => ?_) (fun h_28 => ?_)
          · skip
            have n_29 : ¬ x_27 = 17 := h_28
            refine g_iload C 4 dX7_readCond_71 rfl ?_
            exact g_zret (ty := .boolean) (r := v_7) B K rfl (nar_z (rg_w r_26 (by decide) (by decide))) ⟨hU_3, hF_4, hG_5, rg_w r_26 (by decide) (by decide)⟩ dX7_readCond_73
          · skip
            have r_30 := (⟨(eq_rg (h_28) rc_17).1, (eq_rg (h_28) rc_17).2⟩ : Rg 17 17 x_27)
            refine g_aload_n C 1 dX7_readCond_33 rfl rfl ?_
            refine g_callVV C K (c_X10_advance W9 hLa0 hka0   hU_3) hLa0 hka0 (by decide) rfl v_7_60 rfl ⟨rfl, rfl⟩ ⟨Nat.le_of_ble_eq_true rfl, Nat.le_of_ble_eq_true rfl⟩ (Nat.le_of_ble_eq_true rfl) ⟨Nat.le_of_ble_eq_true rfl, Nat.le_of_ble_eq_true rfl⟩ dX7_readCond_34 rfl (st := []) (fun I_32 J_33 h_34 => ?_)
            obtain ⟨hUI_32, hFI_32, hGJ_33, fx_31⟩ := h_34
            have hF_35 := fq_tr hF_4 hFI_32 (by decide)
            have hG_36 := fq_tr hG_5 hGJ_33 (by decide)
            refine g_aload_n C 0 dX7_readCond_37 rfl rfl ?_
            refine g_aload_n C 1 dX7_readCond_38 rfl rfl ?_
            refine g_aload_n C 2 dX7_readCond_39 rfl rfl ?_
            refine g_iload_n C 3 dX7_readCond_40 rfl rfl ?_
            refine g_callVI C K (c_X7_readAll_7 W9 hLx hkx hLa0 hka0 hLa1 hka1 v_6 (rv_6) hUI_32) hLx hkx (by decide) rfl v_7_54 rfl ⟨rfl, rfl⟩ ⟨Nat.le_of_ble_eq_true rfl, Nat.le_of_ble_eq_true rfl⟩ (Nat.le_of_ble_eq_true rfl) ⟨Nat.le_of_ble_eq_true rfl, Nat.le_of_ble_eq_true rfl⟩ dX7_readCond_41 rfl (st := []) (fun x_37 I_38 J_39 h_40 => ?_)
            obtain ⟨hUI_38, hFI_38, hGJ_39, rx_37⟩ := h_40
            have hF_41 := fq_tr hF_35 hFI_38 (by decide)
            have hG_42 := fq_tr hG_36 hGJ_39 (by decide)
            refine g_if_eq C (tgt := 62) dX7_readCond_44 (by decide) (fun h_43 => ?_) (fun h_43 => ?_)
            · skip
              have r_44 := (⟨(rx_37).1, (eq_rg (h_43) rc_0).2⟩ : Rg 0 0 x_37)
              refine g_lo (is := [0, 1, 2, 3, 4, 5]) (lo2 := [(0, .ref x), (1, .ref a0), (2, .ref a1), (3, .int v_6), (4, .int v_7), (5, .int v_8)]) rfl ?_
              exact j_62 I_38 J_39 hUI_38 hF_41 hG_42 v_6 (rv_6) v_7 (r_26) (n_25) v_8 (r_22) hm_9
            · skip
              have n_45 : ¬ x_37 = 0 := h_43
              have r_46 := ne_lo (lo := 1) n_45 rx_37 rc_0 rfl (by decide)
              refine g_aload_n C 0 dX7_readCond_47 rfl rfl ?_
              refine g_bipush C (v := 17) dX7_readCond_48 (by decide) ?_
              refine g_iconst C (v := 0) dX7_readCond_50 (by decide) ?_
              refine g_iconst C (v := 0) dX7_readCond_51 (by decide) ?_
              refine g_callVI C K (c_X7_addStep W9 hLx hkx 17 0 0 (rg_w rc_0 (by decide) (by decide)) hUI_38  (fun q => absurd q (by decide))) hLx hkx (by decide) rfl v_7_63 rfl ⟨rfl, rfl⟩ ⟨Nat.le_of_ble_eq_true rfl, Nat.le_of_ble_eq_true rfl⟩ (Nat.le_of_ble_eq_true rfl) ⟨Nat.le_of_ble_eq_true rfl, Nat.le_of_ble_eq_true rfl⟩ dX7_readCond_52 rfl (st := []) (fun x_47 I_48 J_49 h_50 => ?_)
              obtain ⟨hUI_48, hFI_48, hGJ_49, rx_47⟩ := h_50
              have hF_51 := fq_tr hF_41 hFI_48 (by decide)
              have hG_52 := fq_tr hG_42 hGJ_49 (by decide)
              refine g_if_eq C (tgt := 62) dX7_readCond_55 (by decide) (fun h_53 => ?_) (fun h_53 => ?_)
              · skip
                have r_54 := (⟨(rx_47).1, (eq_rg (h_53) rc_0).2⟩ : Rg 0 0 x_47)
                refine g_lo (is := [0, 1, 2, 3, 4, 5]) (lo2 := [(0, .ref x), (1, .ref a0), (2, .ref a1), (3, .int v_6), (4, .int v_7), (5, .int v_8)]) rfl ?_
                exact j_62 I_48 J_49 hUI_48 hF_51 hG_52 v_6 (rv_6) v_7 (r_26) (n_25) v_8 (r_22) hm_9
              · skip
                have n_55 : ¬ x_47 = 0 := h_53
                have r_56 := ne_lo (lo := 1) n_55 rx_47 rc_0 rfl (by decide)
                refine g_iconst C (v := 1) dX7_readCond_58 (by decide) ?_
                refine g_goto C (tgt := 63) dX7_readCond_59 (by decide) ?_
                refine g_istore C dX7_readCond_63 (by decide) (lo2 := [(4, .int 1), (0, .ref x), (1, .ref a0), (2, .ref a1), (3, .int v_6), (5, .int v_8)]) rfl ?_
                obtain ⟨x_57, hx_57, rx_57, tx_57⟩ := ex_add (y := 1) 1 20 r_22 rc_1 (by decide) (by decide) (by decide) (by decide)
                refine g_iinc C dX7_readCond_65 (k := 5) (v := x_57) rfl hx_57 (by decide) (lo2 := [(5, .int x_57), (4, .int 1), (0, .ref x), (1, .ref a0), (2, .ref a1), (3, .int v_6)]) rfl ?_
                refine g_goto C (tgt := 12) dX7_readCond_68 (by decide) ?_
                refine g_lo (is := [2, 3, 4, 5, 1, 0]) (lo2 := [(0, .ref x), (1, .ref a0), (2, .ref a1), (3, .int v_6), (4, .int 1), (5, .int x_57)]) rfl ?_
                exact ih_12 I_48 J_49 hUI_48 hF_51 hG_52 v_6 (rv_6) 1 (rg_w rc_1 (by decide) (by decide)) x_57 (rg_w rx_57 (by decide) (by decide)) (ms_1 hm_9 (ti_k tx_57 rc_1) (by decide))
  refine g_aload_n C 0 dX7_readCond_0 rfl rfl ?_
  refine g_aload_n C 1 dX7_readCond_1 rfl rfl ?_
  refine g_aload_n C 2 dX7_readCond_2 rfl rfl ?_
  refine g_iload_n C 3 dX7_readCond_3 rfl rfl ?_
  refine g_callVI C K (c_X7_readAll_7 W9 hLx hkx hLa0 hka0 hLa1 hka1 a2 (ra2) hU) hLx hkx (by decide) rfl v_7_54 rfl ⟨rfl, rfl⟩ ⟨Nat.le_of_ble_eq_true rfl, Nat.le_of_ble_eq_true rfl⟩ (Nat.le_of_ble_eq_true rfl) ⟨Nat.le_of_ble_eq_true rfl, Nat.le_of_ble_eq_true rfl⟩ dX7_readCond_4 rfl (st := []) (fun x_58 I_59 J_60 h_61 => ?_)
  obtain ⟨hUI_59, hFI_59, hGJ_60, rx_58⟩ := h_61
  have hF_62 := fq_tr hF hFI_59 (by decide)
  have hG_63 := fq_tr hG hGJ_60 (by decide)
  refine g_istore C dX7_readCond_7 (by decide) (lo2 := [(4, .int x_58), (0, .ref x), (1, .ref a0), (2, .ref a1), (3, .int a2)]) rfl ?_
  refine g_iconst C (v := 0) dX7_readCond_9 (by decide) ?_
  refine g_istore C dX7_readCond_10 (by decide) (lo2 := [(5, .int 0), (4, .int x_58), (0, .ref x), (1, .ref a0), (2, .ref a1), (3, .int a2)]) rfl ?_
  refine g_lo (is := [2, 3, 4, 5, 1, 0]) (lo2 := [(0, .ref x), (1, .ref a0), (2, .ref a1), (3, .int a2), (4, .int x_58), (5, .int 0)]) rfl ?_
  exact l_12 21 I_59 J_60 hUI_59 hF_62 hG_63 a2 (ra2) x_58 (rx_58) 0 (rg_w rc_0 (by decide) (by decide)) (ms_s (a := 0) (b := 20) (N := 21) (rg_w rc_0 (by decide) (by decide)) (by decide))
set_option maxRecDepth 100000 in
set_option maxHeartbeats 8000000 in
theorem c_X7_readOne_6 {l : Launch} {D : va_G} {cy : Nat → ClassId} {L : List Nat} {κ ln : Nat → Nat} {R : Nat → Nat → Option Nat} {I : Nat → Nat → Int32} {J : Nat → Nat → Int64} {ow : Nat → Nat × Nat} (W9 : ∀ a ∈ L, Shp L κ ln R ow a) {x : Nat} (hLx : x ∈ L) (hkx : κ x = 7) {a0 : Nat} (hLa0 : a0 ∈ L) (hka0 : κ a0 = 10) {a1 : Nat} (hLa1 : a1 ∈ L) (hka1 : κ a1 = 8) (a2 : Int32) (ra2 : Rg 6 6 a2) (hU : Iv L κ R ow I) : CtI l yX7_readOne cX7_readOne 5 (some .boolean) { frames := 10, cells := 0, slots := 0, locals := 243 } D cy L κ ln R I J [.ref x, .ref a0, .ref a1, .int a2] (fun r I2 J2 => Iv L κ R ow I2 ∧ Fq L κ ow [704, 705, 1007, 1008, 1009, 1011, 1012, 52000, 52100, 52200] I I2 ∧ Fq L κ ow [1010] J J2 ∧ Rg 0 1 r) := by
  refine CtI.of (by decide +kernel) (Nat.le_of_ble_eq_true rfl) ?_
  intro p e s m below meth c B K
  have C := B.1
  have hF : Fq L κ ow [704, 705, 1007, 1008, 1009, 1011, 1012, 52000, 52100, 52200] I I := fq_rf
  have hG : Fq L κ ow [1010] J J := fq_rf
  refine g_lo (is := [0, 1, 2, 3]) (lo2 := [(0, .ref x), (1, .ref a0), (2, .ref a1), (3, .int a2)]) rfl ?_
  have j_35 : ∀ (I_1 : Nat → Nat → Int32) (J_2 : Nat → Nat → Int64) (hU_3 : Iv L κ R ow I_1) (hF_4 : Fq L κ ow [704, 705, 1007, 1008, 1009, 1011, 1012, 52000, 52100, 52200] I I_1) (hG_5 : Fq L κ ow [1010] J J_2) (v_6 : Int32) (rv_6 : Rg 6 6 v_6) (v_7 : Int32) (v_8 : Int32) (rv_8 : Rg 20 2147483647 v_8) (q_9 : I_1 a0 8 = v_7) (q_10 : I_1 x 5 = v_8), WG p l e { frames := 10, cells := 0, slots := 0, locals := 243 } s m ([.ref x, .ref a0, .ref a1, .int a2] : List Value).toArray below meth c 5 0 0 (MQ below (Qi_ D cy L κ ln R (fun r I2 J2 => Iv L κ R ow I2 ∧ Fq L κ ow [704, 705, 1007, 1008, 1009, 1011, 1012, 52000, 52100, 52200] I I2 ∧ Fq L κ ow [1010] J J2 ∧ Rg 0 1 r)) ([.ref x, .ref a0, .ref a1, .int a2] : List Value).toArray s 0 0 (Al_ L)) D cy (Al_ L) s.heap L κ ln R I_1 J_2 35 [(0, .ref x), (1, .ref a0), (2, .ref a1), (3, .int v_6), (4, .int v_7)] [] := by
    intro I_1 J_2 hU_3 hF_4 hG_5 v_6 rv_6 v_7 v_8 rv_8 q_9 q_10
    refine g_aload_n C 1 dX7_readOne_35 rfl rfl ?_
    refine g_iconst C (v := 4) dX7_readOne_36 (by decide) ?_
    refine g_callVI C K (c_X10_fail W9 hLa0 hka0 4 (rg_w rc_4 (by decide) (by decide)) hU_3) hLa0 hka0 (by decide) rfl v_7_73 rfl ⟨rfl, rfl⟩ ⟨Nat.le_of_ble_eq_true rfl, Nat.le_of_ble_eq_true rfl⟩ (Nat.le_of_ble_eq_true rfl) ⟨Nat.le_of_ble_eq_true rfl, Nat.le_of_ble_eq_true rfl⟩ dX7_readOne_37 rfl (st := []) (fun x_11 I_12 J_13 h_14 => ?_)
    obtain ⟨hUI_12, hFI_12, hGJ_13, rx_11, fx_11⟩ := h_14
    have hF_15 := fq_tr hF_4 hFI_12 (by decide)
    have hG_16 := fq_tr hG_5 hGJ_13 (by decide)
    exact g_zret (ty := .boolean) (r := x_11) B K rfl (nar_z (rg_w rx_11 (by decide) (by decide))) ⟨hUI_12, hF_15, hG_16, rg_w rx_11 (by decide) (by decide)⟩ dX7_readOne_40
  refine g_aload_n C 1 dX7_readOne_0 rfl rfl ?_
  obtain ⟨x_17, hx_17, rx_17⟩ := ex_get (I := I) (a := a0) (j := 8) (lo := (-2147483648)) (hi := 2147483647) hU.1 hLa0 (ro_o hka0 (by decide)) rfl
  refine g_getI C K hLa0 hka0 f_7_57 (v := x_17) hx_17 dX7_readOne_1 ?_
  refine g_istore C dX7_readOne_4 (by decide) (lo2 := [(4, .int x_17), (0, .ref x), (1, .ref a0), (2, .ref a1), (3, .int a2)]) rfl ?_
  refine g_iload C 0 dX7_readOne_6 rfl ?_
  refine g_callSI C K (c_X7_beginsOne W9 x_17  hU) s_7_70 rfl ⟨rfl, rfl⟩ ⟨Nat.le_of_ble_eq_true rfl, Nat.le_of_ble_eq_true rfl⟩ (Nat.le_of_ble_eq_true rfl) ⟨Nat.le_of_ble_eq_true rfl, Nat.le_of_ble_eq_true rfl⟩ dX7_readOne_8 rfl (st := []) (fun x_18 I_19 J_20 h_21 => ?_)
  obtain ⟨rfl, rfl, rx_18⟩ := h_21
  refine g_if_ne C (tgt := 20) dX7_readOne_11 (by decide) (fun h_22 => ?_) (fun h_22 => ?_)
  · skip
    have n_23 : ¬ x_18 = 0 := h_22
    have r_24 := ne_lo (lo := 1) n_23 rx_18 rc_0 rfl (by decide)
    refine g_aload_n C 1 dX7_readOne_20 rfl rfl ?_
    obtain ⟨x_25, hx_25, rx_25⟩ := ex_get (I := I) (a := x) (j := 5) (lo := (-2147483648)) (hi := 2147483647) hU.1 hLx (ro_o hkx (by decide)) rfl
    refine g_getI C K hLx hkx f_7_28 (v := x_25) hx_25 dX7_readOne_21 ?_
    refine g_bipush C (v := 20) dX7_readOne_24 (by decide) ?_
    refine g_icmp_ge C (tgt := 35) dX7_readOne_26 (by decide) (fun h_26 => ?_) (fun h_26 => ?_)
    · skip
      have r_27 := le_r (h_26) rc_20 rx_25
      refine g_lo (is := [1, 2, 3, 4, 0]) (lo2 := [(0, .ref x), (1, .ref a0), (2, .ref a1), (3, .int a2), (4, .int x_17)]) rfl ?_
      exact j_35 I J hU hF hG a2 (ra2) x_17 x_25 (r_27) hx_17 hx_25
    · skip
      have r_28 := lt_l (hi := 19) (nle h_26) rx_25 rc_20 (by decide)
      refine g_iload_n C 4 dX7_readOne_29 rfl rfl ?_
      refine g_bipush C (v := 8) dX7_readOne_30 (by decide) ?_
      refine g_icmp_le C (tgt := 41) dX7_readOne_32 (by decide) (fun h_29 => ?_) (fun h_29 => ?_)
      · skip
        refine g_aload_n C 1 dX7_readOne_41 rfl rfl ?_
        refine g_dup C dX7_readOne_42 rfl ?_
        refine g_getI C K hLx hkx f_7_28 (v := x_25) hx_25 dX7_readOne_43 ?_
        refine g_iconst C (v := 1) dX7_readOne_46 (by decide) ?_
        obtain ⟨x_30, hx_30, rx_30, tx_30⟩ := ex_add (-2147483647) 20 r_28 rc_1 (by decide) (by decide) (by decide) (by decide)
        refine g_iadd C (v := x_30) dX7_readOne_47 hx_30 ?_
        refine h_putI C K hLx hkx f_7_28 p_7_5 dX7_readOne_48 (fun I_31 hI_31 => ?_)
        have hU_32 := iv_put W9 hU hI_31 (ro_o hkx (by decide)) (lo := (-2147483648)) (hi := 2147483647) (rfl) (rg_all _) rfl
        have hF_33 := fq_puto hF hI_31 hkx (by decide) (by decide)
        refine g_aload_n C 2 dX7_readOne_51 rfl rfl ?_
        refine g_callVV C K (c_X10_advance W9 hLa0 hka0   hU_32) hLa0 hka0 (by decide) rfl v_7_60 rfl ⟨rfl, rfl⟩ ⟨Nat.le_of_ble_eq_true rfl, Nat.le_of_ble_eq_true rfl⟩ (Nat.le_of_ble_eq_true rfl) ⟨Nat.le_of_ble_eq_true rfl, Nat.le_of_ble_eq_true rfl⟩ dX7_readOne_52 rfl (st := []) (fun I_35 J_36 h_37 => ?_)
        obtain ⟨hUI_35, hFI_35, hGJ_36, fx_34⟩ := h_37
        have hF_38 := fq_tr hF_33 hFI_35 (by decide)
        have hG_39 := fq_tr hG hGJ_36 (by decide)
        refine g_iload C 0 dX7_readOne_55 rfl ?_
        refine g_bipush C (v := 40) dX7_readOne_57 (by decide) ?_
        refine g_icmp_ne C (tgt := 89) dX7_readOne_59 (by decide) (fun h_40 => ?_) (fun h_40 => ?_)
        · skip
          have n_41 : ¬ x_17 = 40 := h_40
          refine g_iload C 0 dX7_readOne_89 rfl ?_
          refine g_bipush C (v := 19) dX7_readOne_91 (by decide) ?_
          refine g_icmp_ne C (tgt := 125) dX7_readOne_93 (by decide) (fun h_42 => ?_) (fun h_42 => ?_)
          · skip
            have n_43 : ¬ x_17 = 19 := h_42
            refine g_aload_n C 1 dX7_readOne_125 rfl rfl ?_
            refine g_aload_n C 2 dX7_readOne_126 rfl rfl ?_
            refine g_aload_n C 3 dX7_readOne_127 rfl rfl ?_
            refine g_iload C 0 dX7_readOne_128 rfl ?_
            refine g_callVI C K (c_X7_readPlainOne W9 hLx hkx hLa0 hka0 hLa1 hka1 x_17  hUI_35) hLx hkx (by decide) rfl v_7_76 rfl ⟨rfl, rfl⟩ ⟨Nat.le_of_ble_eq_true rfl, Nat.le_of_ble_eq_true rfl⟩ (Nat.le_of_ble_eq_true rfl) ⟨Nat.le_of_ble_eq_true rfl, Nat.le_of_ble_eq_true rfl⟩ dX7_readOne_130 rfl (st := []) (fun x_44 I_45 J_46 h_47 => ?_)
            obtain ⟨hUI_45, hFI_45, hGJ_46, rx_44⟩ := h_47
            have hF_48 := fq_tr hF_38 hFI_45 (by decide)
            have hG_49 := fq_tr hG_39 hGJ_46 (by decide)
            exact g_zret (ty := .boolean) (r := x_44) B K rfl (nar_z (rx_44)) ⟨hUI_45, hF_48, hG_49, rx_44⟩ dX7_readOne_133
          · skip
            have r_50 := (⟨(eq_rg (h_42) rc_19).1, (eq_rg (h_42) rc_19).2⟩ : Rg 19 19 x_17)
            refine g_aload_n C 1 dX7_readOne_96 rfl rfl ?_
            refine g_aload_n C 2 dX7_readOne_97 rfl rfl ?_
            refine g_aload_n C 3 dX7_readOne_98 rfl rfl ?_
            refine g_iload_n C 4 dX7_readOne_99 rfl rfl ?_
            refine g_iconst C (v := 1) dX7_readOne_100 (by decide) ?_
            obtain ⟨x_51, hx_51, rx_51, tx_51⟩ := ex_add 7 7 ra2 rc_1 (by decide) (by decide) (by decide) (by decide)
            refine g_iadd C (v := x_51) dX7_readOne_101 hx_51 ?_
            refine g_callVI C K (c_X7_readOne_7 W9 hLx hkx hLa0 hka0 hLa1 hka1 x_51 (rx_51) hUI_35) hLx hkx (by decide) rfl v_7_67 rfl ⟨rfl, rfl⟩ ⟨Nat.le_of_ble_eq_true rfl, Nat.le_of_ble_eq_true rfl⟩ (Nat.le_of_ble_eq_true rfl) ⟨Nat.le_of_ble_eq_true rfl, Nat.le_of_ble_eq_true rfl⟩ dX7_readOne_102 rfl (st := []) (fun x_52 I_53 J_54 h_55 => ?_)
            obtain ⟨hUI_53, hFI_53, hGJ_54, rx_52⟩ := h_55
            have hF_56 := fq_tr hF_38 hFI_53 (by decide)
            have hG_57 := fq_tr hG_39 hGJ_54 (by decide)
            refine g_if_eq C (tgt := 123) dX7_readOne_105 (by decide) (fun h_58 => ?_) (fun h_58 => ?_)
            · skip
              have r_59 := (⟨(rx_52).1, (eq_rg (h_58) rc_0).2⟩ : Rg 0 0 x_52)
              refine g_iconst C (v := 0) dX7_readOne_123 (by decide) ?_
              exact g_zret (ty := .boolean) (r := 0) B K rfl (rfl) ⟨hUI_53, hF_56, hG_57, rg_w rc_0 (by decide) (by decide)⟩ dX7_readOne_124
            · skip
              have n_60 : ¬ x_52 = 0 := h_58
              have r_61 := ne_lo (lo := 1) n_60 rx_52 rc_0 rfl (by decide)
              refine g_aload_n C 1 dX7_readOne_108 rfl rfl ?_
              refine g_bipush C (v := 19) dX7_readOne_109 (by decide) ?_
              refine g_iconst C (v := 0) dX7_readOne_111 (by decide) ?_
              refine g_iconst C (v := 0) dX7_readOne_112 (by decide) ?_
              refine g_callVI C K (c_X7_addStep W9 hLx hkx 19 0 0 (rg_w rc_0 (by decide) (by decide)) hUI_53  (fun q => absurd q (by decide))) hLx hkx (by decide) rfl v_7_63 rfl ⟨rfl, rfl⟩ ⟨Nat.le_of_ble_eq_true rfl, Nat.le_of_ble_eq_true rfl⟩ (Nat.le_of_ble_eq_true rfl) ⟨Nat.le_of_ble_eq_true rfl, Nat.le_of_ble_eq_true rfl⟩ dX7_readOne_113 rfl (st := []) (fun x_62 I_63 J_64 h_65 => ?_)
              obtain ⟨hUI_63, hFI_63, hGJ_64, rx_62⟩ := h_65
              have hF_66 := fq_tr hF_56 hFI_63 (by decide)
              have hG_67 := fq_tr hG_57 hGJ_64 (by decide)
              refine g_if_eq C (tgt := 123) dX7_readOne_116 (by decide) (fun h_68 => ?_) (fun h_68 => ?_)
              · skip
                have r_69 := (⟨(rx_62).1, (eq_rg (h_68) rc_0).2⟩ : Rg 0 0 x_62)
                refine g_iconst C (v := 0) dX7_readOne_123 (by decide) ?_
                exact g_zret (ty := .boolean) (r := 0) B K rfl (rfl) ⟨hUI_63, hF_66, hG_67, rg_w rc_0 (by decide) (by decide)⟩ dX7_readOne_124
              · skip
                have n_70 : ¬ x_62 = 0 := h_68
                have r_71 := ne_lo (lo := 1) n_70 rx_62 rc_0 rfl (by decide)
                refine g_iconst C (v := 1) dX7_readOne_119 (by decide) ?_
                refine g_goto C (tgt := 124) dX7_readOne_120 (by decide) ?_
                exact g_zret (ty := .boolean) (r := 1) B K rfl (rfl) ⟨hUI_63, hF_66, hG_67, rg_w rc_1 (by decide) (by decide)⟩ dX7_readOne_124
        · skip
          have r_72 := (⟨(eq_rg (h_40) rc_40).1, (eq_rg (h_40) rc_40).2⟩ : Rg 40 40 x_17)
          refine g_aload_n C 1 dX7_readOne_62 rfl rfl ?_
          refine g_aload_n C 2 dX7_readOne_63 rfl rfl ?_
          refine g_aload_n C 3 dX7_readOne_64 rfl rfl ?_
          refine g_iload_n C 4 dX7_readOne_65 rfl rfl ?_
          refine g_iconst C (v := 1) dX7_readOne_66 (by decide) ?_
          obtain ⟨x_73, hx_73, rx_73, tx_73⟩ := ex_add 7 7 ra2 rc_1 (by decide) (by decide) (by decide) (by decide)
          refine g_iadd C (v := x_73) dX7_readOne_67 hx_73 ?_
          refine g_callVI C K (c_X7_readCond_7 W9 hLx hkx hLa0 hka0 hLa1 hka1 x_73 (rx_73) hUI_35) hLx hkx (by decide) rfl v_7_46 rfl ⟨rfl, rfl⟩ ⟨Nat.le_of_ble_eq_true rfl, Nat.le_of_ble_eq_true rfl⟩ (Nat.le_of_ble_eq_true rfl) ⟨Nat.le_of_ble_eq_true rfl, Nat.le_of_ble_eq_true rfl⟩ dX7_readOne_68 rfl (st := []) (fun x_74 I_75 J_76 h_77 => ?_)
          obtain ⟨hUI_75, hFI_75, hGJ_76, rx_74⟩ := h_77
          have hF_78 := fq_tr hF_38 hFI_75 (by decide)
          have hG_79 := fq_tr hG_39 hGJ_76 (by decide)
          refine g_if_eq C (tgt := 87) dX7_readOne_71 (by decide) (fun h_80 => ?_) (fun h_80 => ?_)
          · skip
            have r_81 := (⟨(rx_74).1, (eq_rg (h_80) rc_0).2⟩ : Rg 0 0 x_74)
            refine g_iconst C (v := 0) dX7_readOne_87 (by decide) ?_
            exact g_zret (ty := .boolean) (r := 0) B K rfl (rfl) ⟨hUI_75, hF_78, hG_79, rg_w rc_0 (by decide) (by decide)⟩ dX7_readOne_88
          · skip
            have n_82 : ¬ x_74 = 0 := h_80
            have r_83 := ne_lo (lo := 1) n_82 rx_74 rc_0 rfl (by decide)
            refine g_aload_n C 2 dX7_readOne_74 rfl rfl ?_
            refine g_bipush C (v := 41) dX7_readOne_75 (by decide) ?_
            refine g_callVI C K (c_X10_take W9 hLa0 hka0 41 (rg_w rc_41 (by decide) (by decide)) hUI_75) hLa0 hka0 (by decide) rfl v_7_50 rfl ⟨rfl, rfl⟩ ⟨Nat.le_of_ble_eq_true rfl, Nat.le_of_ble_eq_true rfl⟩ (Nat.le_of_ble_eq_true rfl) ⟨Nat.le_of_ble_eq_true rfl, Nat.le_of_ble_eq_true rfl⟩ dX7_readOne_77 rfl (st := []) (fun x_84 I_85 J_86 h_87 => ?_)
            obtain ⟨hUI_85, hFI_85, hGJ_86, rx_84, fx_84⟩ := h_87
            have hF_88 := fq_tr hF_78 hFI_85 (by decide)
            have hG_89 := fq_tr hG_79 hGJ_86 (by decide)
            refine g_if_eq C (tgt := 87) dX7_readOne_80 (by decide) (fun h_90 => ?_) (fun h_90 => ?_)
            · skip
              have r_91 := (⟨(rx_84).1, (eq_rg (h_90) rc_0).2⟩ : Rg 0 0 x_84)
              refine g_iconst C (v := 0) dX7_readOne_87 (by decide) ?_
              exact g_zret (ty := .boolean) (r := 0) B K rfl (rfl) ⟨hUI_85, hF_88, hG_89, rg_w rc_0 (by decide) (by decide)⟩ dX7_readOne_88
            · skip
              have n_92 : ¬ x_84 = 0 := h_90
              have r_93 := ne_lo (lo := 1) n_92 rx_84 rc_0 rfl (by decide)
              refine g_iconst C (v := 1) dX7_readOne_83 (by decide) ?_
              refine g_goto C (tgt := 88) dX7_readOne_84 (by decide) ?_
              exact g_zret (ty := .boolean) (r := 1) B K rfl (rfl) ⟨hUI_85, hF_88, hG_89, rg_w rc_1 (by decide) (by decide)⟩ dX7_readOne_88
      · skip
        have r_94 := lt_r (lo := 9) (nle h_29) rc_8 ra2 (by decide)
        exact rg_no r_94 (by decide)
  · skip
    have r_95 := (⟨(rx_18).1, (eq_rg (h_22) rc_0).2⟩ : Rg 0 0 x_18)
    refine g_aload_n C 2 dX7_readOne_14 rfl rfl ?_
    refine g_iconst C (v := 1) dX7_readOne_15 (by decide) ?_
    refine g_callVI C K (c_X10_fail W9 hLa0 hka0 1 (rg_w rc_1 (by decide) (by decide)) hU) hLa0 hka0 (by decide) rfl v_7_73 rfl ⟨rfl, rfl⟩ ⟨Nat.le_of_ble_eq_true rfl, Nat.le_of_ble_eq_true rfl⟩ (Nat.le_of_ble_eq_true rfl) ⟨Nat.le_of_ble_eq_true rfl, Nat.le_of_ble_eq_true rfl⟩ dX7_readOne_16 rfl (st := []) (fun x_96 I_97 J_98 h_99 => ?_)
    obtain ⟨hUI_97, hFI_97, hGJ_98, rx_96, fx_96⟩ := h_99
    have hF_100 := fq_tr hF hFI_97 (by decide)
    have hG_101 := fq_tr hG hGJ_98 (by decide)
    exact g_zret (ty := .boolean) (r := x_96) B K rfl (nar_z (rg_w rx_96 (by decide) (by decide))) ⟨hUI_97, hF_100, hG_101, rg_w rx_96 (by decide) (by decide)⟩ dX7_readOne_19
set_option maxRecDepth 100000 in
set_option maxHeartbeats 8000000 in
theorem c_X7_readAll_6 {l : Launch} {D : va_G} {cy : Nat → ClassId} {L : List Nat} {κ ln : Nat → Nat} {R : Nat → Nat → Option Nat} {I : Nat → Nat → Int32} {J : Nat → Nat → Int64} {ow : Nat → Nat × Nat} (W9 : ∀ a ∈ L, Shp L κ ln R ow a) {x : Nat} (hLx : x ∈ L) (hkx : κ x = 7) {a0 : Nat} (hLa0 : a0 ∈ L) (hka0 : κ a0 = 10) {a1 : Nat} (hLa1 : a1 ∈ L) (hka1 : κ a1 = 8) (a2 : Int32) (ra2 : Rg 6 6 a2) (hU : Iv L κ R ow I) : CtI l yX7_readAll cX7_readAll 6 (some .boolean) { frames := 11, cells := 0, slots := 0, locals := 267 } D cy L κ ln R I J [.ref x, .ref a0, .ref a1, .int a2] (fun r I2 J2 => Iv L κ R ow I2 ∧ Fq L κ ow [704, 705, 1007, 1008, 1009, 1011, 1012, 52000, 52100, 52200] I I2 ∧ Fq L κ ow [1010] J J2 ∧ Rg 0 1 r) := by
  refine CtI.of (by decide +kernel) (Nat.le_of_ble_eq_true rfl) ?_
  intro p e s m below meth c B K
  have C := B.1
  have hF : Fq L κ ow [704, 705, 1007, 1008, 1009, 1011, 1012, 52000, 52100, 52200] I I := fq_rf
  have hG : Fq L κ ow [1010] J J := fq_rf
  refine g_lo (is := [0, 1, 2, 3]) (lo2 := [(0, .ref x), (1, .ref a0), (2, .ref a1), (3, .int a2)]) rfl ?_
  have l_12 : ∀ (n_12 : Nat) (I_1 : Nat → Nat → Int32) (J_2 : Nat → Nat → Int64) (hU_3 : Iv L κ R ow I_1) (hF_4 : Fq L κ ow [704, 705, 1007, 1008, 1009, 1011, 1012, 52000, 52100, 52200] I I_1) (hG_5 : Fq L κ ow [1010] J J_2) (v_6 : Int32) (rv_6 : Rg 6 6 v_6) (v_7 : Int32) (rv_7 : Rg 0 1 v_7) (v_8 : Int32) (rv_8 : Rg 0 20 v_8) (hm_9 : 20 < (v_8 : Int32).toInt + (n_12 : Int)), WG p l e { frames := 11, cells := 0, slots := 0, locals := 267 } s m ([.ref x, .ref a0, .ref a1, .int a2] : List Value).toArray below meth c 6 0 0 (MQ below (Qi_ D cy L κ ln R (fun r I2 J2 => Iv L κ R ow I2 ∧ Fq L κ ow [704, 705, 1007, 1008, 1009, 1011, 1012, 52000, 52100, 52200] I I2 ∧ Fq L κ ow [1010] J J2 ∧ Rg 0 1 r)) ([.ref x, .ref a0, .ref a1, .int a2] : List Value).toArray s 0 0 (Al_ L)) D cy (Al_ L) s.heap L κ ln R I_1 J_2 12 [(0, .ref x), (1, .ref a0), (2, .ref a1), (3, .int v_6), (4, .int v_7), (5, .int v_8)] [] := by
    intro n_12
    induction n_12 with
    | zero =>
      intro I_1 J_2 hU_3 hF_4 hG_5 v_6 rv_6 v_7 rv_7 v_8 rv_8 hm_9
      exact ms_0 rv_8 hm_9
    | succ n_12 ih_12 =>
      intro I_1 J_2 hU_3 hF_4 hG_5 v_6 rv_6 v_7 rv_7 v_8 rv_8 hm_9
      have j_62 : ∀ (I_10 : Nat → Nat → Int32) (J_11 : Nat → Nat → Int64) (hU_12 : Iv L κ R ow I_10) (hF_13 : Fq L κ ow [704, 705, 1007, 1008, 1009, 1011, 1012, 52000, 52100, 52200] I I_10) (hG_14 : Fq L κ ow [1010] J J_11) (v_15 : Int32) (rv_15 : Rg 6 6 v_15) (v_16 : Int32) (rv_16 : Rg 1 1 v_16) (nv_16_0 : ¬ v_16 = 0) (v_17 : Int32) (rv_17 : Rg 0 19 v_17) (hm_18 : 20 < (v_17 : Int32).toInt + ((n_12 + 1 : Nat) : Int)), WG p l e { frames := 11, cells := 0, slots := 0, locals := 267 } s m ([.ref x, .ref a0, .ref a1, .int a2] : List Value).toArray below meth c 6 0 0 (MQ below (Qi_ D cy L κ ln R (fun r I2 J2 => Iv L κ R ow I2 ∧ Fq L κ ow [704, 705, 1007, 1008, 1009, 1011, 1012, 52000, 52100, 52200] I I2 ∧ Fq L κ ow [1010] J J2 ∧ Rg 0 1 r)) ([.ref x, .ref a0, .ref a1, .int a2] : List Value).toArray s 0 0 (Al_ L)) D cy (Al_ L) s.heap L κ ln R I_10 J_11 62 [(0, .ref x), (1, .ref a0), (2, .ref a1), (3, .int v_15), (4, .int v_16), (5, .int v_17)] [] := by
        intro I_10 J_11 hU_12 hF_13 hG_14 v_15 rv_15 v_16 rv_16 nv_16_0 v_17 rv_17 hm_18
        refine g_iconst C (v := 0) dX7_readAll_62 (by decide) ?_
        refine g_istore C dX7_readAll_63 (by decide) (lo2 := [(4, .int 0), (0, .ref x), (1, .ref a0), (2, .ref a1), (3, .int v_15), (5, .int v_17)]) rfl ?_
        obtain ⟨x_19, hx_19, rx_19, tx_19⟩ := ex_add (y := 1) 1 20 rv_17 rc_1 (by decide) (by decide) (by decide) (by decide)
        refine g_iinc C dX7_readAll_65 (k := 5) (v := x_19) rfl hx_19 (by decide) (lo2 := [(5, .int x_19), (4, .int 0), (0, .ref x), (1, .ref a0), (2, .ref a1), (3, .int v_15)]) rfl ?_
        refine g_goto C (tgt := 12) dX7_readAll_68 (by decide) ?_
        refine g_lo (is := [2, 3, 4, 5, 1, 0]) (lo2 := [(0, .ref x), (1, .ref a0), (2, .ref a1), (3, .int v_15), (4, .int 0), (5, .int x_19)]) rfl ?_
        exact ih_12 I_10 J_11 hU_12 hF_13 hG_14 v_15 (rv_15) 0 (rg_w rc_0 (by decide) (by decide)) x_19 (rg_w rx_19 (by decide) (by decide)) (ms_1 hm_18 (ti_k tx_19 rc_1) (by decide))
      refine g_iload C 5 dX7_readAll_12 rfl ?_
      refine g_bipush C (v := 20) dX7_readAll_14 (by decide) ?_
      refine g_icmp_ge C (tgt := 71) dX7_readAll_16 (by decide) (fun h_20 => ?_) (fun h_20 => ?_)
      · skip
        have r_21 := le_r (h_20) rc_20 rv_8
        refine g_iload C 4 dX7_readAll_71 rfl ?_
        exact g_zret (ty := .boolean) (r := v_7) B K rfl (nar_z (rv_7)) ⟨hU_3, hF_4, hG_5, rv_7⟩ dX7_readAll_73
      · skip
        have r_22 := lt_l (hi := 19) (nle h_20) rv_8 rc_20 (by decide)
        refine g_iload C 4 dX7_readAll_19 rfl ?_
        refine g_if_eq C (tgt := 71) dX7_readAll_21 (by decide) (fun h_23 => ?_) (fun h_23 => ?_)
        · skip
          have r_24 := (⟨(rv_7).1, (eq_rg (h_23) rc_0).2⟩ : Rg 0 0 v_7)
          refine g_iload C 4 dX7_readAll_71 rfl ?_
          exact g_zret (ty := .boolean) (r := v_7) B K rfl (nar_z (rg_w r_24 (by decide) (by decide))) ⟨hU_3, hF_4, hG_5, rg_w r_24 (by decide) (by decide)⟩ dX7_readAll_73
        · skip
          have n_25 : ¬ v_7 = 0 := h_23
          have r_26 := ne_lo (lo := 1) n_25 rv_7 rc_0 rfl (by decide)
          refine g_aload_n C 1 dX7_readAll_24 rfl rfl ?_
          obtain ⟨x_27, hx_27, rx_27⟩ := ex_get (I := I_1) (a := a0) (j := 8) (lo := (-2147483648)) (hi := 2147483647) hU_3.1 hLa0 (ro_o hka0 (by decide)) rfl
          refine g_getI C K hLa0 hka0 f_7_57 (v := x_27) hx_27 dX7_readAll_25 ?_
          refine g_bipush C (v := 18) dX7_readAll_28 (by decide) ?_
          refine g_icmp_ne C (tgt := 71) dX7_readAll_30 (by decide) (fun h_28 => ?_) (fun h_28 => ?_)
          · skip
            have n_29 : ¬ x_27 = 18 := h_28
            refine g_iload C 4 dX7_readAll_71 rfl ?_
            exact g_zret (ty := .boolean) (r := v_7) B K rfl (nar_z (rg_w r_26 (by decide) (by decide))) ⟨hU_3, hF_4, hG_5, rg_w r_26 (by decide) (by decide)⟩ dX7_readAll_73
          · skip
            have r_30 := (⟨(eq_rg (h_28) rc_18).1, (eq_rg (h_28) rc_18).2⟩ : Rg 18 18 x_27)
            refine g_aload_n C 1 dX7_readAll_33 rfl rfl ?_
            refine g_callVV C K (c_X10_advance W9 hLa0 hka0   hU_3) hLa0 hka0 (by decide) rfl v_7_60 rfl ⟨rfl, rfl⟩ ⟨Nat.le_of_ble_eq_true rfl, Nat.le_of_ble_eq_true rfl⟩ (Nat.le_of_ble_eq_true rfl) ⟨Nat.le_of_ble_eq_true rfl, Nat.le_of_ble_eq_true rfl⟩ dX7_readAll_34 rfl (st := []) (fun I_32 J_33 h_34 => ?_)
            obtain ⟨hUI_32, hFI_32, hGJ_33, fx_31⟩ := h_34
            have hF_35 := fq_tr hF_4 hFI_32 (by decide)
            have hG_36 := fq_tr hG_5 hGJ_33 (by decide)
            refine g_aload_n C 0 dX7_readAll_37 rfl rfl ?_
            refine g_aload_n C 1 dX7_readAll_38 rfl rfl ?_
            refine g_aload_n C 2 dX7_readAll_39 rfl rfl ?_
            refine g_iload_n C 3 dX7_readAll_40 rfl rfl ?_
            refine g_callVI C K (c_X7_readOne_6 W9 hLx hkx hLa0 hka0 hLa1 hka1 v_6 (rv_6) hUI_32) hLx hkx (by decide) rfl v_7_67 rfl ⟨rfl, rfl⟩ ⟨Nat.le_of_ble_eq_true rfl, Nat.le_of_ble_eq_true rfl⟩ (Nat.le_of_ble_eq_true rfl) ⟨Nat.le_of_ble_eq_true rfl, Nat.le_of_ble_eq_true rfl⟩ dX7_readAll_41 rfl (st := []) (fun x_37 I_38 J_39 h_40 => ?_)
            obtain ⟨hUI_38, hFI_38, hGJ_39, rx_37⟩ := h_40
            have hF_41 := fq_tr hF_35 hFI_38 (by decide)
            have hG_42 := fq_tr hG_36 hGJ_39 (by decide)
            refine g_if_eq C (tgt := 62) dX7_readAll_44 (by decide) (fun h_43 => ?_) (fun h_43 => ?_)
            · skip
              have r_44 := (⟨(rx_37).1, (eq_rg (h_43) rc_0).2⟩ : Rg 0 0 x_37)
              refine g_lo (is := [0, 1, 2, 3, 4, 5]) (lo2 := [(0, .ref x), (1, .ref a0), (2, .ref a1), (3, .int v_6), (4, .int v_7), (5, .int v_8)]) rfl ?_
              exact j_62 I_38 J_39 hUI_38 hF_41 hG_42 v_6 (rv_6) v_7 (r_26) (n_25) v_8 (r_22) hm_9
            · skip
              have n_45 : ¬ x_37 = 0 := h_43
              have r_46 := ne_lo (lo := 1) n_45 rx_37 rc_0 rfl (by decide)
              refine g_aload_n C 0 dX7_readAll_47 rfl rfl ?_
              refine g_bipush C (v := 18) dX7_readAll_48 (by decide) ?_
              refine g_iconst C (v := 0) dX7_readAll_50 (by decide) ?_
              refine g_iconst C (v := 0) dX7_readAll_51 (by decide) ?_
              refine g_callVI C K (c_X7_addStep W9 hLx hkx 18 0 0 (rg_w rc_0 (by decide) (by decide)) hUI_38  (fun q => absurd q (by decide))) hLx hkx (by decide) rfl v_7_63 rfl ⟨rfl, rfl⟩ ⟨Nat.le_of_ble_eq_true rfl, Nat.le_of_ble_eq_true rfl⟩ (Nat.le_of_ble_eq_true rfl) ⟨Nat.le_of_ble_eq_true rfl, Nat.le_of_ble_eq_true rfl⟩ dX7_readAll_52 rfl (st := []) (fun x_47 I_48 J_49 h_50 => ?_)
              obtain ⟨hUI_48, hFI_48, hGJ_49, rx_47⟩ := h_50
              have hF_51 := fq_tr hF_41 hFI_48 (by decide)
              have hG_52 := fq_tr hG_42 hGJ_49 (by decide)
              refine g_if_eq C (tgt := 62) dX7_readAll_55 (by decide) (fun h_53 => ?_) (fun h_53 => ?_)
              · skip
                have r_54 := (⟨(rx_47).1, (eq_rg (h_53) rc_0).2⟩ : Rg 0 0 x_47)
                refine g_lo (is := [0, 1, 2, 3, 4, 5]) (lo2 := [(0, .ref x), (1, .ref a0), (2, .ref a1), (3, .int v_6), (4, .int v_7), (5, .int v_8)]) rfl ?_
                exact j_62 I_48 J_49 hUI_48 hF_51 hG_52 v_6 (rv_6) v_7 (r_26) (n_25) v_8 (r_22) hm_9
              · skip
                have n_55 : ¬ x_47 = 0 := h_53
                have r_56 := ne_lo (lo := 1) n_55 rx_47 rc_0 rfl (by decide)
                refine g_iconst C (v := 1) dX7_readAll_58 (by decide) ?_
                refine g_goto C (tgt := 63) dX7_readAll_59 (by decide) ?_
                refine g_istore C dX7_readAll_63 (by decide) (lo2 := [(4, .int 1), (0, .ref x), (1, .ref a0), (2, .ref a1), (3, .int v_6), (5, .int v_8)]) rfl ?_
                obtain ⟨x_57, hx_57, rx_57, tx_57⟩ := ex_add (y := 1) 1 20 r_22 rc_1 (by decide) (by decide) (by decide) (by decide)
                refine g_iinc C dX7_readAll_65 (k := 5) (v := x_57) rfl hx_57 (by decide) (lo2 := [(5, .int x_57), (4, .int 1), (0, .ref x), (1, .ref a0), (2, .ref a1), (3, .int v_6)]) rfl ?_
                refine g_goto C (tgt := 12) dX7_readAll_68 (by decide) ?_
                refine g_lo (is := [2, 3, 4, 5, 1, 0]) (lo2 := [(0, .ref x), (1, .ref a0), (2, .ref a1), (3, .int v_6), (4, .int 1), (5, .int x_57)]) rfl ?_
                exact ih_12 I_48 J_49 hUI_48 hF_51 hG_52 v_6 (rv_6) 1 (rg_w rc_1 (by decide) (by decide)) x_57 (rg_w rx_57 (by decide) (by decide)) (ms_1 hm_9 (ti_k tx_57 rc_1) (by decide))
  refine g_aload_n C 0 dX7_readAll_0 rfl rfl ?_
  refine g_aload_n C 1 dX7_readAll_1 rfl rfl ?_
  refine g_aload_n C 2 dX7_readAll_2 rfl rfl ?_
  refine g_iload_n C 3 dX7_readAll_3 rfl rfl ?_
  refine g_callVI C K (c_X7_readOne_6 W9 hLx hkx hLa0 hka0 hLa1 hka1 a2 (ra2) hU) hLx hkx (by decide) rfl v_7_67 rfl ⟨rfl, rfl⟩ ⟨Nat.le_of_ble_eq_true rfl, Nat.le_of_ble_eq_true rfl⟩ (Nat.le_of_ble_eq_true rfl) ⟨Nat.le_of_ble_eq_true rfl, Nat.le_of_ble_eq_true rfl⟩ dX7_readAll_4 rfl (st := []) (fun x_58 I_59 J_60 h_61 => ?_)
  obtain ⟨hUI_59, hFI_59, hGJ_60, rx_58⟩ := h_61
  have hF_62 := fq_tr hF hFI_59 (by decide)
  have hG_63 := fq_tr hG hGJ_60 (by decide)
  refine g_istore C dX7_readAll_7 (by decide) (lo2 := [(4, .int x_58), (0, .ref x), (1, .ref a0), (2, .ref a1), (3, .int a2)]) rfl ?_
  refine g_iconst C (v := 0) dX7_readAll_9 (by decide) ?_
  refine g_istore C dX7_readAll_10 (by decide) (lo2 := [(5, .int 0), (4, .int x_58), (0, .ref x), (1, .ref a0), (2, .ref a1), (3, .int a2)]) rfl ?_
  refine g_lo (is := [2, 3, 4, 5, 1, 0]) (lo2 := [(0, .ref x), (1, .ref a0), (2, .ref a1), (3, .int a2), (4, .int x_58), (5, .int 0)]) rfl ?_
  exact l_12 21 I_59 J_60 hUI_59 hF_62 hG_63 a2 (ra2) x_58 (rx_58) 0 (rg_w rc_0 (by decide) (by decide)) (ms_s (a := 0) (b := 20) (N := 21) (rg_w rc_0 (by decide) (by decide)) (by decide))
set_option maxRecDepth 100000 in
set_option maxHeartbeats 8000000 in
theorem c_X7_readCond_6 {l : Launch} {D : va_G} {cy : Nat → ClassId} {L : List Nat} {κ ln : Nat → Nat} {R : Nat → Nat → Option Nat} {I : Nat → Nat → Int32} {J : Nat → Nat → Int64} {ow : Nat → Nat × Nat} (W9 : ∀ a ∈ L, Shp L κ ln R ow a) {x : Nat} (hLx : x ∈ L) (hkx : κ x = 7) {a0 : Nat} (hLa0 : a0 ∈ L) (hka0 : κ a0 = 10) {a1 : Nat} (hLa1 : a1 ∈ L) (hka1 : κ a1 = 8) (a2 : Int32) (ra2 : Rg 6 6 a2) (hU : Iv L κ R ow I) : CtI l yX7_readCond cX7_readCond 6 (some .boolean) { frames := 12, cells := 0, slots := 0, locals := 292 } D cy L κ ln R I J [.ref x, .ref a0, .ref a1, .int a2] (fun r I2 J2 => Iv L κ R ow I2 ∧ Fq L κ ow [704, 705, 1007, 1008, 1009, 1011, 1012, 52000, 52100, 52200] I I2 ∧ Fq L κ ow [1010] J J2 ∧ Rg 0 1 r) := by
  refine CtI.of (by decide +kernel) (Nat.le_of_ble_eq_true rfl) ?_
  intro p e s m below meth c B K
  have C := B.1
  have hF : Fq L κ ow [704, 705, 1007, 1008, 1009, 1011, 1012, 52000, 52100, 52200] I I := fq_rf
  have hG : Fq L κ ow [1010] J J := fq_rf
  refine g_lo (is := [0, 1, 2, 3]) (lo2 := [(0, .ref x), (1, .ref a0), (2, .ref a1), (3, .int a2)]) rfl ?_
  have l_12 : ∀ (n_12 : Nat) (I_1 : Nat → Nat → Int32) (J_2 : Nat → Nat → Int64) (hU_3 : Iv L κ R ow I_1) (hF_4 : Fq L κ ow [704, 705, 1007, 1008, 1009, 1011, 1012, 52000, 52100, 52200] I I_1) (hG_5 : Fq L κ ow [1010] J J_2) (v_6 : Int32) (rv_6 : Rg 6 6 v_6) (v_7 : Int32) (rv_7 : Rg 0 1 v_7) (v_8 : Int32) (rv_8 : Rg 0 20 v_8) (hm_9 : 20 < (v_8 : Int32).toInt + (n_12 : Int)), WG p l e { frames := 12, cells := 0, slots := 0, locals := 292 } s m ([.ref x, .ref a0, .ref a1, .int a2] : List Value).toArray below meth c 6 0 0 (MQ below (Qi_ D cy L κ ln R (fun r I2 J2 => Iv L κ R ow I2 ∧ Fq L κ ow [704, 705, 1007, 1008, 1009, 1011, 1012, 52000, 52100, 52200] I I2 ∧ Fq L κ ow [1010] J J2 ∧ Rg 0 1 r)) ([.ref x, .ref a0, .ref a1, .int a2] : List Value).toArray s 0 0 (Al_ L)) D cy (Al_ L) s.heap L κ ln R I_1 J_2 12 [(0, .ref x), (1, .ref a0), (2, .ref a1), (3, .int v_6), (4, .int v_7), (5, .int v_8)] [] := by
    intro n_12
    induction n_12 with
    | zero =>
      intro I_1 J_2 hU_3 hF_4 hG_5 v_6 rv_6 v_7 rv_7 v_8 rv_8 hm_9
      exact ms_0 rv_8 hm_9
    | succ n_12 ih_12 =>
      intro I_1 J_2 hU_3 hF_4 hG_5 v_6 rv_6 v_7 rv_7 v_8 rv_8 hm_9
      have j_62 : ∀ (I_10 : Nat → Nat → Int32) (J_11 : Nat → Nat → Int64) (hU_12 : Iv L κ R ow I_10) (hF_13 : Fq L κ ow [704, 705, 1007, 1008, 1009, 1011, 1012, 52000, 52100, 52200] I I_10) (hG_14 : Fq L κ ow [1010] J J_11) (v_15 : Int32) (rv_15 : Rg 6 6 v_15) (v_16 : Int32) (rv_16 : Rg 1 1 v_16) (nv_16_0 : ¬ v_16 = 0) (v_17 : Int32) (rv_17 : Rg 0 19 v_17) (hm_18 : 20 < (v_17 : Int32).toInt + ((n_12 + 1 : Nat) : Int)), WG p l e { frames := 12, cells := 0, slots := 0, locals := 292 } s m ([.ref x, .ref a0, .ref a1, .int a2] : List Value).toArray below meth c 6 0 0 (MQ below (Qi_ D cy L κ ln R (fun r I2 J2 => Iv L κ R ow I2 ∧ Fq L κ ow [704, 705, 1007, 1008, 1009, 1011, 1012, 52000, 52100, 52200] I I2 ∧ Fq L κ ow [1010] J J2 ∧ Rg 0 1 r)) ([.ref x, .ref a0, .ref a1, .int a2] : List Value).toArray s 0 0 (Al_ L)) D cy (Al_ L) s.heap L κ ln R I_10 J_11 62 [(0, .ref x), (1, .ref a0), (2, .ref a1), (3, .int v_15), (4, .int v_16), (5, .int v_17)] [] := by
        intro I_10 J_11 hU_12 hF_13 hG_14 v_15 rv_15 v_16 rv_16 nv_16_0 v_17 rv_17 hm_18
        refine g_iconst C (v := 0) dX7_readCond_62 (by decide) ?_
        refine g_istore C dX7_readCond_63 (by decide) (lo2 := [(4, .int 0), (0, .ref x), (1, .ref a0), (2, .ref a1), (3, .int v_15), (5, .int v_17)]) rfl ?_
        obtain ⟨x_19, hx_19, rx_19, tx_19⟩ := ex_add (y := 1) 1 20 rv_17 rc_1 (by decide) (by decide) (by decide) (by decide)
        refine g_iinc C dX7_readCond_65 (k := 5) (v := x_19) rfl hx_19 (by decide) (lo2 := [(5, .int x_19), (4, .int 0), (0, .ref x), (1, .ref a0), (2, .ref a1), (3, .int v_15)]) rfl ?_
        refine g_goto C (tgt := 12) dX7_readCond_68 (by decide) ?_
        refine g_lo (is := [2, 3, 4, 5, 1, 0]) (lo2 := [(0, .ref x), (1, .ref a0), (2, .ref a1), (3, .int v_15), (4, .int 0), (5, .int x_19)]) rfl ?_
        exact ih_12 I_10 J_11 hU_12 hF_13 hG_14 v_15 (rv_15) 0 (rg_w rc_0 (by decide) (by decide)) x_19 (rg_w rx_19 (by decide) (by decide)) (ms_1 hm_18 (ti_k tx_19 rc_1) (by decide))
      refine g_iload C 5 dX7_readCond_12 rfl ?_
      refine g_bipush C (v := 20) dX7_readCond_14 (by decide) ?_
      refine g_icmp_ge C (tgt := 71) dX7_readCond_16 (by decide) (fun h_20 => ?_) (fun h_20 => ?_)
      · skip
        have r_21 := le_r (h_20) rc_20 rv_8
        refine g_iload C 4 dX7_readCond_71 rfl ?_
        exact g_zret (ty := .boolean) (r := v_7) B K rfl (nar_z (rv_7)) ⟨hU_3, hF_4, hG_5, rv_7⟩ dX7_readCond_73
      · skip
        have r_22 := lt_l (hi := 19) (nle h_20) rv_8 rc_20 (by decide)
        refine g_iload C 4 dX7_readCond_19 rfl ?_
        refine g_if_eq C (tgt := 71) dX7_readCond_21 (by decide) (fun h_23 => ?_) (fun h_23 => ?_)
        · skip
          have r_24 := (⟨(rv_7).1, (eq_rg (h_23) rc_0).2⟩ : Rg 0 0 v_7)
          refine g_iload C 4 dX7_readCond_71 rfl ?_
          exact g_zret (ty := .boolean) (r := v_7) B K rfl (nar_z (rg_w r_24 (by decide) (by decide))) ⟨hU_3, hF_4, hG_5, rg_w r_24 (by decide) (by decide)⟩ dX7_readCond_73
        · skip
          have n_25 : ¬ v_7 = 0 := h_23
          have r_26 := ne_lo (lo := 1) n_25 rv_7 rc_0 rfl (by decide)
          refine g_aload_n C 1 dX7_readCond_24 rfl rfl ?_
          obtain ⟨x_27, hx_27, rx_27⟩ := ex_get (I := I_1) (a := a0) (j := 8) (lo := (-2147483648)) (hi := 2147483647) hU_3.1 hLa0 (ro_o hka0 (by decide)) rfl
          refine g_getI C K hLa0 hka0 f_7_57 (v := x_27) hx_27 dX7_readCond_25 ?_
          refine g_bipush C (v := 17) dX7_readCond_28 (by decide) ?_
          refine g_icmp_ne C (tgt := 71) dX7_readCond_30 (by decide) (fun h_28 => ?_) (fun h_28 => ?_)
          · skip
            have n_29 : ¬ x_27 = 17 := h_28
            refine g_iload C 4 dX7_readCond_71 rfl ?_
            exact g_zret (ty := .boolean) (r := v_7) B K rfl (nar_z (rg_w r_26 (by decide) (by decide))) ⟨hU_3, hF_4, hG_5, rg_w r_26 (by decide) (by decide)⟩ dX7_readCond_73
          · skip
            have r_30 := (⟨(eq_rg (h_28) rc_17).1, (eq_rg (h_28) rc_17).2⟩ : Rg 17 17 x_27)
            refine g_aload_n C 1 dX7_readCond_33 rfl rfl ?_
            refine g_callVV C K (c_X10_advance W9 hLa0 hka0   hU_3) hLa0 hka0 (by decide) rfl v_7_60 rfl ⟨rfl, rfl⟩ ⟨Nat.le_of_ble_eq_true rfl, Nat.le_of_ble_eq_true rfl⟩ (Nat.le_of_ble_eq_true rfl) ⟨Nat.le_of_ble_eq_true rfl, Nat.le_of_ble_eq_true rfl⟩ dX7_readCond_34 rfl (st := []) (fun I_32 J_33 h_34 => ?_)
            obtain ⟨hUI_32, hFI_32, hGJ_33, fx_31⟩ := h_34
            have hF_35 := fq_tr hF_4 hFI_32 (by decide)
            have hG_36 := fq_tr hG_5 hGJ_33 (by decide)
            refine g_aload_n C 0 dX7_readCond_37 rfl rfl ?_
            refine g_aload_n C 1 dX7_readCond_38 rfl rfl ?_
            refine g_aload_n C 2 dX7_readCond_39 rfl rfl ?_
            refine g_iload_n C 3 dX7_readCond_40 rfl rfl ?_
            refine g_callVI C K (c_X7_readAll_6 W9 hLx hkx hLa0 hka0 hLa1 hka1 v_6 (rv_6) hUI_32) hLx hkx (by decide) rfl v_7_54 rfl ⟨rfl, rfl⟩ ⟨Nat.le_of_ble_eq_true rfl, Nat.le_of_ble_eq_true rfl⟩ (Nat.le_of_ble_eq_true rfl) ⟨Nat.le_of_ble_eq_true rfl, Nat.le_of_ble_eq_true rfl⟩ dX7_readCond_41 rfl (st := []) (fun x_37 I_38 J_39 h_40 => ?_)
            obtain ⟨hUI_38, hFI_38, hGJ_39, rx_37⟩ := h_40
            have hF_41 := fq_tr hF_35 hFI_38 (by decide)
            have hG_42 := fq_tr hG_36 hGJ_39 (by decide)
            refine g_if_eq C (tgt := 62) dX7_readCond_44 (by decide) (fun h_43 => ?_) (fun h_43 => ?_)
            · skip
              have r_44 := (⟨(rx_37).1, (eq_rg (h_43) rc_0).2⟩ : Rg 0 0 x_37)
              refine g_lo (is := [0, 1, 2, 3, 4, 5]) (lo2 := [(0, .ref x), (1, .ref a0), (2, .ref a1), (3, .int v_6), (4, .int v_7), (5, .int v_8)]) rfl ?_
              exact j_62 I_38 J_39 hUI_38 hF_41 hG_42 v_6 (rv_6) v_7 (r_26) (n_25) v_8 (r_22) hm_9
            · skip
              have n_45 : ¬ x_37 = 0 := h_43
              have r_46 := ne_lo (lo := 1) n_45 rx_37 rc_0 rfl (by decide)
              refine g_aload_n C 0 dX7_readCond_47 rfl rfl ?_
              refine g_bipush C (v := 17) dX7_readCond_48 (by decide) ?_
              refine g_iconst C (v := 0) dX7_readCond_50 (by decide) ?_
              refine g_iconst C (v := 0) dX7_readCond_51 (by decide) ?_
              refine g_callVI C K (c_X7_addStep W9 hLx hkx 17 0 0 (rg_w rc_0 (by decide) (by decide)) hUI_38  (fun q => absurd q (by decide))) hLx hkx (by decide) rfl v_7_63 rfl ⟨rfl, rfl⟩ ⟨Nat.le_of_ble_eq_true rfl, Nat.le_of_ble_eq_true rfl⟩ (Nat.le_of_ble_eq_true rfl) ⟨Nat.le_of_ble_eq_true rfl, Nat.le_of_ble_eq_true rfl⟩ dX7_readCond_52 rfl (st := []) (fun x_47 I_48 J_49 h_50 => ?_)
              obtain ⟨hUI_48, hFI_48, hGJ_49, rx_47⟩ := h_50
              have hF_51 := fq_tr hF_41 hFI_48 (by decide)
              have hG_52 := fq_tr hG_42 hGJ_49 (by decide)
              refine g_if_eq C (tgt := 62) dX7_readCond_55 (by decide) (fun h_53 => ?_) (fun h_53 => ?_)
              · skip
                have r_54 := (⟨(rx_47).1, (eq_rg (h_53) rc_0).2⟩ : Rg 0 0 x_47)
                refine g_lo (is := [0, 1, 2, 3, 4, 5]) (lo2 := [(0, .ref x), (1, .ref a0), (2, .ref a1), (3, .int v_6), (4, .int v_7), (5, .int v_8)]) rfl ?_
                exact j_62 I_48 J_49 hUI_48 hF_51 hG_52 v_6 (rv_6) v_7 (r_26) (n_25) v_8 (r_22) hm_9
              · skip
                have n_55 : ¬ x_47 = 0 := h_53
                have r_56 := ne_lo (lo := 1) n_55 rx_47 rc_0 rfl (by decide)
                refine g_iconst C (v := 1) dX7_readCond_58 (by decide) ?_
                refine g_goto C (tgt := 63) dX7_readCond_59 (by decide) ?_
                refine g_istore C dX7_readCond_63 (by decide) (lo2 := [(4, .int 1), (0, .ref x), (1, .ref a0), (2, .ref a1), (3, .int v_6), (5, .int v_8)]) rfl ?_
                obtain ⟨x_57, hx_57, rx_57, tx_57⟩ := ex_add (y := 1) 1 20 r_22 rc_1 (by decide) (by decide) (by decide) (by decide)
                refine g_iinc C dX7_readCond_65 (k := 5) (v := x_57) rfl hx_57 (by decide) (lo2 := [(5, .int x_57), (4, .int 1), (0, .ref x), (1, .ref a0), (2, .ref a1), (3, .int v_6)]) rfl ?_
                refine g_goto C (tgt := 12) dX7_readCond_68 (by decide) ?_
                refine g_lo (is := [2, 3, 4, 5, 1, 0]) (lo2 := [(0, .ref x), (1, .ref a0), (2, .ref a1), (3, .int v_6), (4, .int 1), (5, .int x_57)]) rfl ?_
                exact ih_12 I_48 J_49 hUI_48 hF_51 hG_52 v_6 (rv_6) 1 (rg_w rc_1 (by decide) (by decide)) x_57 (rg_w rx_57 (by decide) (by decide)) (ms_1 hm_9 (ti_k tx_57 rc_1) (by decide))
  refine g_aload_n C 0 dX7_readCond_0 rfl rfl ?_
  refine g_aload_n C 1 dX7_readCond_1 rfl rfl ?_
  refine g_aload_n C 2 dX7_readCond_2 rfl rfl ?_
  refine g_iload_n C 3 dX7_readCond_3 rfl rfl ?_
  refine g_callVI C K (c_X7_readAll_6 W9 hLx hkx hLa0 hka0 hLa1 hka1 a2 (ra2) hU) hLx hkx (by decide) rfl v_7_54 rfl ⟨rfl, rfl⟩ ⟨Nat.le_of_ble_eq_true rfl, Nat.le_of_ble_eq_true rfl⟩ (Nat.le_of_ble_eq_true rfl) ⟨Nat.le_of_ble_eq_true rfl, Nat.le_of_ble_eq_true rfl⟩ dX7_readCond_4 rfl (st := []) (fun x_58 I_59 J_60 h_61 => ?_)
  obtain ⟨hUI_59, hFI_59, hGJ_60, rx_58⟩ := h_61
  have hF_62 := fq_tr hF hFI_59 (by decide)
  have hG_63 := fq_tr hG hGJ_60 (by decide)
  refine g_istore C dX7_readCond_7 (by decide) (lo2 := [(4, .int x_58), (0, .ref x), (1, .ref a0), (2, .ref a1), (3, .int a2)]) rfl ?_
  refine g_iconst C (v := 0) dX7_readCond_9 (by decide) ?_
  refine g_istore C dX7_readCond_10 (by decide) (lo2 := [(5, .int 0), (4, .int x_58), (0, .ref x), (1, .ref a0), (2, .ref a1), (3, .int a2)]) rfl ?_
  refine g_lo (is := [2, 3, 4, 5, 1, 0]) (lo2 := [(0, .ref x), (1, .ref a0), (2, .ref a1), (3, .int a2), (4, .int x_58), (5, .int 0)]) rfl ?_
  exact l_12 21 I_59 J_60 hUI_59 hF_62 hG_63 a2 (ra2) x_58 (rx_58) 0 (rg_w rc_0 (by decide) (by decide)) (ms_s (a := 0) (b := 20) (N := 21) (rg_w rc_0 (by decide) (by decide)) (by decide))
set_option maxRecDepth 100000 in
set_option maxHeartbeats 8000000 in
theorem c_X7_readOne_5 {l : Launch} {D : va_G} {cy : Nat → ClassId} {L : List Nat} {κ ln : Nat → Nat} {R : Nat → Nat → Option Nat} {I : Nat → Nat → Int32} {J : Nat → Nat → Int64} {ow : Nat → Nat × Nat} (W9 : ∀ a ∈ L, Shp L κ ln R ow a) {x : Nat} (hLx : x ∈ L) (hkx : κ x = 7) {a0 : Nat} (hLa0 : a0 ∈ L) (hka0 : κ a0 = 10) {a1 : Nat} (hLa1 : a1 ∈ L) (hka1 : κ a1 = 8) (a2 : Int32) (ra2 : Rg 5 5 a2) (hU : Iv L κ R ow I) : CtI l yX7_readOne cX7_readOne 5 (some .boolean) { frames := 13, cells := 0, slots := 0, locals := 317 } D cy L κ ln R I J [.ref x, .ref a0, .ref a1, .int a2] (fun r I2 J2 => Iv L κ R ow I2 ∧ Fq L κ ow [704, 705, 1007, 1008, 1009, 1011, 1012, 52000, 52100, 52200] I I2 ∧ Fq L κ ow [1010] J J2 ∧ Rg 0 1 r) := by
  refine CtI.of (by decide +kernel) (Nat.le_of_ble_eq_true rfl) ?_
  intro p e s m below meth c B K
  have C := B.1
  have hF : Fq L κ ow [704, 705, 1007, 1008, 1009, 1011, 1012, 52000, 52100, 52200] I I := fq_rf
  have hG : Fq L κ ow [1010] J J := fq_rf
  refine g_lo (is := [0, 1, 2, 3]) (lo2 := [(0, .ref x), (1, .ref a0), (2, .ref a1), (3, .int a2)]) rfl ?_
  have j_35 : ∀ (I_1 : Nat → Nat → Int32) (J_2 : Nat → Nat → Int64) (hU_3 : Iv L κ R ow I_1) (hF_4 : Fq L κ ow [704, 705, 1007, 1008, 1009, 1011, 1012, 52000, 52100, 52200] I I_1) (hG_5 : Fq L κ ow [1010] J J_2) (v_6 : Int32) (rv_6 : Rg 5 5 v_6) (v_7 : Int32) (v_8 : Int32) (rv_8 : Rg 20 2147483647 v_8) (q_9 : I_1 a0 8 = v_7) (q_10 : I_1 x 5 = v_8), WG p l e { frames := 13, cells := 0, slots := 0, locals := 317 } s m ([.ref x, .ref a0, .ref a1, .int a2] : List Value).toArray below meth c 5 0 0 (MQ below (Qi_ D cy L κ ln R (fun r I2 J2 => Iv L κ R ow I2 ∧ Fq L κ ow [704, 705, 1007, 1008, 1009, 1011, 1012, 52000, 52100, 52200] I I2 ∧ Fq L κ ow [1010] J J2 ∧ Rg 0 1 r)) ([.ref x, .ref a0, .ref a1, .int a2] : List Value).toArray s 0 0 (Al_ L)) D cy (Al_ L) s.heap L κ ln R I_1 J_2 35 [(0, .ref x), (1, .ref a0), (2, .ref a1), (3, .int v_6), (4, .int v_7)] [] := by
    intro I_1 J_2 hU_3 hF_4 hG_5 v_6 rv_6 v_7 v_8 rv_8 q_9 q_10
    refine g_aload_n C 1 dX7_readOne_35 rfl rfl ?_
    refine g_iconst C (v := 4) dX7_readOne_36 (by decide) ?_
    refine g_callVI C K (c_X10_fail W9 hLa0 hka0 4 (rg_w rc_4 (by decide) (by decide)) hU_3) hLa0 hka0 (by decide) rfl v_7_73 rfl ⟨rfl, rfl⟩ ⟨Nat.le_of_ble_eq_true rfl, Nat.le_of_ble_eq_true rfl⟩ (Nat.le_of_ble_eq_true rfl) ⟨Nat.le_of_ble_eq_true rfl, Nat.le_of_ble_eq_true rfl⟩ dX7_readOne_37 rfl (st := []) (fun x_11 I_12 J_13 h_14 => ?_)
    obtain ⟨hUI_12, hFI_12, hGJ_13, rx_11, fx_11⟩ := h_14
    have hF_15 := fq_tr hF_4 hFI_12 (by decide)
    have hG_16 := fq_tr hG_5 hGJ_13 (by decide)
    exact g_zret (ty := .boolean) (r := x_11) B K rfl (nar_z (rg_w rx_11 (by decide) (by decide))) ⟨hUI_12, hF_15, hG_16, rg_w rx_11 (by decide) (by decide)⟩ dX7_readOne_40
  refine g_aload_n C 1 dX7_readOne_0 rfl rfl ?_
  obtain ⟨x_17, hx_17, rx_17⟩ := ex_get (I := I) (a := a0) (j := 8) (lo := (-2147483648)) (hi := 2147483647) hU.1 hLa0 (ro_o hka0 (by decide)) rfl
  refine g_getI C K hLa0 hka0 f_7_57 (v := x_17) hx_17 dX7_readOne_1 ?_
  refine g_istore C dX7_readOne_4 (by decide) (lo2 := [(4, .int x_17), (0, .ref x), (1, .ref a0), (2, .ref a1), (3, .int a2)]) rfl ?_
  refine g_iload C 0 dX7_readOne_6 rfl ?_
  refine g_callSI C K (c_X7_beginsOne W9 x_17  hU) s_7_70 rfl ⟨rfl, rfl⟩ ⟨Nat.le_of_ble_eq_true rfl, Nat.le_of_ble_eq_true rfl⟩ (Nat.le_of_ble_eq_true rfl) ⟨Nat.le_of_ble_eq_true rfl, Nat.le_of_ble_eq_true rfl⟩ dX7_readOne_8 rfl (st := []) (fun x_18 I_19 J_20 h_21 => ?_)
  obtain ⟨rfl, rfl, rx_18⟩ := h_21
  refine g_if_ne C (tgt := 20) dX7_readOne_11 (by decide) (fun h_22 => ?_) (fun h_22 => ?_)
  · skip
    have n_23 : ¬ x_18 = 0 := h_22
    have r_24 := ne_lo (lo := 1) n_23 rx_18 rc_0 rfl (by decide)
    refine g_aload_n C 1 dX7_readOne_20 rfl rfl ?_
    obtain ⟨x_25, hx_25, rx_25⟩ := ex_get (I := I) (a := x) (j := 5) (lo := (-2147483648)) (hi := 2147483647) hU.1 hLx (ro_o hkx (by decide)) rfl
    refine g_getI C K hLx hkx f_7_28 (v := x_25) hx_25 dX7_readOne_21 ?_
    refine g_bipush C (v := 20) dX7_readOne_24 (by decide) ?_
    refine g_icmp_ge C (tgt := 35) dX7_readOne_26 (by decide) (fun h_26 => ?_) (fun h_26 => ?_)
    · skip
      have r_27 := le_r (h_26) rc_20 rx_25
      refine g_lo (is := [1, 2, 3, 4, 0]) (lo2 := [(0, .ref x), (1, .ref a0), (2, .ref a1), (3, .int a2), (4, .int x_17)]) rfl ?_
      exact j_35 I J hU hF hG a2 (ra2) x_17 x_25 (r_27) hx_17 hx_25
    · skip
      have r_28 := lt_l (hi := 19) (nle h_26) rx_25 rc_20 (by decide)
      refine g_iload_n C 4 dX7_readOne_29 rfl rfl ?_
      refine g_bipush C (v := 8) dX7_readOne_30 (by decide) ?_
      refine g_icmp_le C (tgt := 41) dX7_readOne_32 (by decide) (fun h_29 => ?_) (fun h_29 => ?_)
      · skip
        refine g_aload_n C 1 dX7_readOne_41 rfl rfl ?_
        refine g_dup C dX7_readOne_42 rfl ?_
        refine g_getI C K hLx hkx f_7_28 (v := x_25) hx_25 dX7_readOne_43 ?_
        refine g_iconst C (v := 1) dX7_readOne_46 (by decide) ?_
        obtain ⟨x_30, hx_30, rx_30, tx_30⟩ := ex_add (-2147483647) 20 r_28 rc_1 (by decide) (by decide) (by decide) (by decide)
        refine g_iadd C (v := x_30) dX7_readOne_47 hx_30 ?_
        refine h_putI C K hLx hkx f_7_28 p_7_5 dX7_readOne_48 (fun I_31 hI_31 => ?_)
        have hU_32 := iv_put W9 hU hI_31 (ro_o hkx (by decide)) (lo := (-2147483648)) (hi := 2147483647) (rfl) (rg_all _) rfl
        have hF_33 := fq_puto hF hI_31 hkx (by decide) (by decide)
        refine g_aload_n C 2 dX7_readOne_51 rfl rfl ?_
        refine g_callVV C K (c_X10_advance W9 hLa0 hka0   hU_32) hLa0 hka0 (by decide) rfl v_7_60 rfl ⟨rfl, rfl⟩ ⟨Nat.le_of_ble_eq_true rfl, Nat.le_of_ble_eq_true rfl⟩ (Nat.le_of_ble_eq_true rfl) ⟨Nat.le_of_ble_eq_true rfl, Nat.le_of_ble_eq_true rfl⟩ dX7_readOne_52 rfl (st := []) (fun I_35 J_36 h_37 => ?_)
        obtain ⟨hUI_35, hFI_35, hGJ_36, fx_34⟩ := h_37
        have hF_38 := fq_tr hF_33 hFI_35 (by decide)
        have hG_39 := fq_tr hG hGJ_36 (by decide)
        refine g_iload C 0 dX7_readOne_55 rfl ?_
        refine g_bipush C (v := 40) dX7_readOne_57 (by decide) ?_
        refine g_icmp_ne C (tgt := 89) dX7_readOne_59 (by decide) (fun h_40 => ?_) (fun h_40 => ?_)
        · skip
          have n_41 : ¬ x_17 = 40 := h_40
          refine g_iload C 0 dX7_readOne_89 rfl ?_
          refine g_bipush C (v := 19) dX7_readOne_91 (by decide) ?_
          refine g_icmp_ne C (tgt := 125) dX7_readOne_93 (by decide) (fun h_42 => ?_) (fun h_42 => ?_)
          · skip
            have n_43 : ¬ x_17 = 19 := h_42
            refine g_aload_n C 1 dX7_readOne_125 rfl rfl ?_
            refine g_aload_n C 2 dX7_readOne_126 rfl rfl ?_
            refine g_aload_n C 3 dX7_readOne_127 rfl rfl ?_
            refine g_iload C 0 dX7_readOne_128 rfl ?_
            refine g_callVI C K (c_X7_readPlainOne W9 hLx hkx hLa0 hka0 hLa1 hka1 x_17  hUI_35) hLx hkx (by decide) rfl v_7_76 rfl ⟨rfl, rfl⟩ ⟨Nat.le_of_ble_eq_true rfl, Nat.le_of_ble_eq_true rfl⟩ (Nat.le_of_ble_eq_true rfl) ⟨Nat.le_of_ble_eq_true rfl, Nat.le_of_ble_eq_true rfl⟩ dX7_readOne_130 rfl (st := []) (fun x_44 I_45 J_46 h_47 => ?_)
            obtain ⟨hUI_45, hFI_45, hGJ_46, rx_44⟩ := h_47
            have hF_48 := fq_tr hF_38 hFI_45 (by decide)
            have hG_49 := fq_tr hG_39 hGJ_46 (by decide)
            exact g_zret (ty := .boolean) (r := x_44) B K rfl (nar_z (rx_44)) ⟨hUI_45, hF_48, hG_49, rx_44⟩ dX7_readOne_133
          · skip
            have r_50 := (⟨(eq_rg (h_42) rc_19).1, (eq_rg (h_42) rc_19).2⟩ : Rg 19 19 x_17)
            refine g_aload_n C 1 dX7_readOne_96 rfl rfl ?_
            refine g_aload_n C 2 dX7_readOne_97 rfl rfl ?_
            refine g_aload_n C 3 dX7_readOne_98 rfl rfl ?_
            refine g_iload_n C 4 dX7_readOne_99 rfl rfl ?_
            refine g_iconst C (v := 1) dX7_readOne_100 (by decide) ?_
            obtain ⟨x_51, hx_51, rx_51, tx_51⟩ := ex_add 6 6 ra2 rc_1 (by decide) (by decide) (by decide) (by decide)
            refine g_iadd C (v := x_51) dX7_readOne_101 hx_51 ?_
            refine g_callVI C K (c_X7_readOne_6 W9 hLx hkx hLa0 hka0 hLa1 hka1 x_51 (rx_51) hUI_35) hLx hkx (by decide) rfl v_7_67 rfl ⟨rfl, rfl⟩ ⟨Nat.le_of_ble_eq_true rfl, Nat.le_of_ble_eq_true rfl⟩ (Nat.le_of_ble_eq_true rfl) ⟨Nat.le_of_ble_eq_true rfl, Nat.le_of_ble_eq_true rfl⟩ dX7_readOne_102 rfl (st := []) (fun x_52 I_53 J_54 h_55 => ?_)
            obtain ⟨hUI_53, hFI_53, hGJ_54, rx_52⟩ := h_55
            have hF_56 := fq_tr hF_38 hFI_53 (by decide)
            have hG_57 := fq_tr hG_39 hGJ_54 (by decide)
            refine g_if_eq C (tgt := 123) dX7_readOne_105 (by decide) (fun h_58 => ?_) (fun h_58 => ?_)
            · skip
              have r_59 := (⟨(rx_52).1, (eq_rg (h_58) rc_0).2⟩ : Rg 0 0 x_52)
              refine g_iconst C (v := 0) dX7_readOne_123 (by decide) ?_
              exact g_zret (ty := .boolean) (r := 0) B K rfl (rfl) ⟨hUI_53, hF_56, hG_57, rg_w rc_0 (by decide) (by decide)⟩ dX7_readOne_124
            · skip
              have n_60 : ¬ x_52 = 0 := h_58
              have r_61 := ne_lo (lo := 1) n_60 rx_52 rc_0 rfl (by decide)
              refine g_aload_n C 1 dX7_readOne_108 rfl rfl ?_
              refine g_bipush C (v := 19) dX7_readOne_109 (by decide) ?_
              refine g_iconst C (v := 0) dX7_readOne_111 (by decide) ?_
              refine g_iconst C (v := 0) dX7_readOne_112 (by decide) ?_
              refine g_callVI C K (c_X7_addStep W9 hLx hkx 19 0 0 (rg_w rc_0 (by decide) (by decide)) hUI_53  (fun q => absurd q (by decide))) hLx hkx (by decide) rfl v_7_63 rfl ⟨rfl, rfl⟩ ⟨Nat.le_of_ble_eq_true rfl, Nat.le_of_ble_eq_true rfl⟩ (Nat.le_of_ble_eq_true rfl) ⟨Nat.le_of_ble_eq_true rfl, Nat.le_of_ble_eq_true rfl⟩ dX7_readOne_113 rfl (st := []) (fun x_62 I_63 J_64 h_65 => ?_)
              obtain ⟨hUI_63, hFI_63, hGJ_64, rx_62⟩ := h_65
              have hF_66 := fq_tr hF_56 hFI_63 (by decide)
              have hG_67 := fq_tr hG_57 hGJ_64 (by decide)
              refine g_if_eq C (tgt := 123) dX7_readOne_116 (by decide) (fun h_68 => ?_) (fun h_68 => ?_)
              · skip
                have r_69 := (⟨(rx_62).1, (eq_rg (h_68) rc_0).2⟩ : Rg 0 0 x_62)
                refine g_iconst C (v := 0) dX7_readOne_123 (by decide) ?_
                exact g_zret (ty := .boolean) (r := 0) B K rfl (rfl) ⟨hUI_63, hF_66, hG_67, rg_w rc_0 (by decide) (by decide)⟩ dX7_readOne_124
              · skip
                have n_70 : ¬ x_62 = 0 := h_68
                have r_71 := ne_lo (lo := 1) n_70 rx_62 rc_0 rfl (by decide)
                refine g_iconst C (v := 1) dX7_readOne_119 (by decide) ?_
                refine g_goto C (tgt := 124) dX7_readOne_120 (by decide) ?_
                exact g_zret (ty := .boolean) (r := 1) B K rfl (rfl) ⟨hUI_63, hF_66, hG_67, rg_w rc_1 (by decide) (by decide)⟩ dX7_readOne_124
        · skip
          have r_72 := (⟨(eq_rg (h_40) rc_40).1, (eq_rg (h_40) rc_40).2⟩ : Rg 40 40 x_17)
          refine g_aload_n C 1 dX7_readOne_62 rfl rfl ?_
          refine g_aload_n C 2 dX7_readOne_63 rfl rfl ?_
          refine g_aload_n C 3 dX7_readOne_64 rfl rfl ?_
          refine g_iload_n C 4 dX7_readOne_65 rfl rfl ?_
          refine g_iconst C (v := 1) dX7_readOne_66 (by decide) ?_
          obtain ⟨x_73, hx_73, rx_73, tx_73⟩ := ex_add 6 6 ra2 rc_1 (by decide) (by decide) (by decide) (by decide)
          refine g_iadd C (v := x_73) dX7_readOne_67 hx_73 ?_
          refine g_callVI C K (c_X7_readCond_6 W9 hLx hkx hLa0 hka0 hLa1 hka1 x_73 (rx_73) hUI_35) hLx hkx (by decide) rfl v_7_46 rfl ⟨rfl, rfl⟩ ⟨Nat.le_of_ble_eq_true rfl, Nat.le_of_ble_eq_true rfl⟩ (Nat.le_of_ble_eq_true rfl) ⟨Nat.le_of_ble_eq_true rfl, Nat.le_of_ble_eq_true rfl⟩ dX7_readOne_68 rfl (st := []) (fun x_74 I_75 J_76 h_77 => ?_)
          obtain ⟨hUI_75, hFI_75, hGJ_76, rx_74⟩ := h_77
          have hF_78 := fq_tr hF_38 hFI_75 (by decide)
          have hG_79 := fq_tr hG_39 hGJ_76 (by decide)
          refine g_if_eq C (tgt := 87) dX7_readOne_71 (by decide) (fun h_80 => ?_) (fun h_80 => ?_)
          · skip
            have r_81 := (⟨(rx_74).1, (eq_rg (h_80) rc_0).2⟩ : Rg 0 0 x_74)
            refine g_iconst C (v := 0) dX7_readOne_87 (by decide) ?_
            exact g_zret (ty := .boolean) (r := 0) B K rfl (rfl) ⟨hUI_75, hF_78, hG_79, rg_w rc_0 (by decide) (by decide)⟩ dX7_readOne_88
          · skip
            have n_82 : ¬ x_74 = 0 := h_80
            have r_83 := ne_lo (lo := 1) n_82 rx_74 rc_0 rfl (by decide)
            refine g_aload_n C 2 dX7_readOne_74 rfl rfl ?_
            refine g_bipush C (v := 41) dX7_readOne_75 (by decide) ?_
            refine g_callVI C K (c_X10_take W9 hLa0 hka0 41 (rg_w rc_41 (by decide) (by decide)) hUI_75) hLa0 hka0 (by decide) rfl v_7_50 rfl ⟨rfl, rfl⟩ ⟨Nat.le_of_ble_eq_true rfl, Nat.le_of_ble_eq_true rfl⟩ (Nat.le_of_ble_eq_true rfl) ⟨Nat.le_of_ble_eq_true rfl, Nat.le_of_ble_eq_true rfl⟩ dX7_readOne_77 rfl (st := []) (fun x_84 I_85 J_86 h_87 => ?_)
            obtain ⟨hUI_85, hFI_85, hGJ_86, rx_84, fx_84⟩ := h_87
            have hF_88 := fq_tr hF_78 hFI_85 (by decide)
            have hG_89 := fq_tr hG_79 hGJ_86 (by decide)
            refine g_if_eq C (tgt := 87) dX7_readOne_80 (by decide) (fun h_90 => ?_) (fun h_90 => ?_)
            · skip
              have r_91 := (⟨(rx_84).1, (eq_rg (h_90) rc_0).2⟩ : Rg 0 0 x_84)
              refine g_iconst C (v := 0) dX7_readOne_87 (by decide) ?_
              exact g_zret (ty := .boolean) (r := 0) B K rfl (rfl) ⟨hUI_85, hF_88, hG_89, rg_w rc_0 (by decide) (by decide)⟩ dX7_readOne_88
            · skip
              have n_92 : ¬ x_84 = 0 := h_90
              have r_93 := ne_lo (lo := 1) n_92 rx_84 rc_0 rfl (by decide)
              refine g_iconst C (v := 1) dX7_readOne_83 (by decide) ?_
              refine g_goto C (tgt := 88) dX7_readOne_84 (by decide) ?_
              exact g_zret (ty := .boolean) (r := 1) B K rfl (rfl) ⟨hUI_85, hF_88, hG_89, rg_w rc_1 (by decide) (by decide)⟩ dX7_readOne_88
      · skip
        have r_94 := lt_r (lo := 9) (nle h_29) rc_8 ra2 (by decide)
        exact rg_no r_94 (by decide)
  · skip
    have r_95 := (⟨(rx_18).1, (eq_rg (h_22) rc_0).2⟩ : Rg 0 0 x_18)
    refine g_aload_n C 2 dX7_readOne_14 rfl rfl ?_
    refine g_iconst C (v := 1) dX7_readOne_15 (by decide) ?_
    refine g_callVI C K (c_X10_fail W9 hLa0 hka0 1 (rg_w rc_1 (by decide) (by decide)) hU) hLa0 hka0 (by decide) rfl v_7_73 rfl ⟨rfl, rfl⟩ ⟨Nat.le_of_ble_eq_true rfl, Nat.le_of_ble_eq_true rfl⟩ (Nat.le_of_ble_eq_true rfl) ⟨Nat.le_of_ble_eq_true rfl, Nat.le_of_ble_eq_true rfl⟩ dX7_readOne_16 rfl (st := []) (fun x_96 I_97 J_98 h_99 => ?_)
    obtain ⟨hUI_97, hFI_97, hGJ_98, rx_96, fx_96⟩ := h_99
    have hF_100 := fq_tr hF hFI_97 (by decide)
    have hG_101 := fq_tr hG hGJ_98 (by decide)
    exact g_zret (ty := .boolean) (r := x_96) B K rfl (nar_z (rg_w rx_96 (by decide) (by decide))) ⟨hUI_97, hF_100, hG_101, rg_w rx_96 (by decide) (by decide)⟩ dX7_readOne_19
set_option maxRecDepth 100000 in
set_option maxHeartbeats 8000000 in
theorem c_X7_readAll_5 {l : Launch} {D : va_G} {cy : Nat → ClassId} {L : List Nat} {κ ln : Nat → Nat} {R : Nat → Nat → Option Nat} {I : Nat → Nat → Int32} {J : Nat → Nat → Int64} {ow : Nat → Nat × Nat} (W9 : ∀ a ∈ L, Shp L κ ln R ow a) {x : Nat} (hLx : x ∈ L) (hkx : κ x = 7) {a0 : Nat} (hLa0 : a0 ∈ L) (hka0 : κ a0 = 10) {a1 : Nat} (hLa1 : a1 ∈ L) (hka1 : κ a1 = 8) (a2 : Int32) (ra2 : Rg 5 5 a2) (hU : Iv L κ R ow I) : CtI l yX7_readAll cX7_readAll 6 (some .boolean) { frames := 14, cells := 0, slots := 0, locals := 341 } D cy L κ ln R I J [.ref x, .ref a0, .ref a1, .int a2] (fun r I2 J2 => Iv L κ R ow I2 ∧ Fq L κ ow [704, 705, 1007, 1008, 1009, 1011, 1012, 52000, 52100, 52200] I I2 ∧ Fq L κ ow [1010] J J2 ∧ Rg 0 1 r) := by
  refine CtI.of (by decide +kernel) (Nat.le_of_ble_eq_true rfl) ?_
  intro p e s m below meth c B K
  have C := B.1
  have hF : Fq L κ ow [704, 705, 1007, 1008, 1009, 1011, 1012, 52000, 52100, 52200] I I := fq_rf
  have hG : Fq L κ ow [1010] J J := fq_rf
  refine g_lo (is := [0, 1, 2, 3]) (lo2 := [(0, .ref x), (1, .ref a0), (2, .ref a1), (3, .int a2)]) rfl ?_
  have l_12 : ∀ (n_12 : Nat) (I_1 : Nat → Nat → Int32) (J_2 : Nat → Nat → Int64) (hU_3 : Iv L κ R ow I_1) (hF_4 : Fq L κ ow [704, 705, 1007, 1008, 1009, 1011, 1012, 52000, 52100, 52200] I I_1) (hG_5 : Fq L κ ow [1010] J J_2) (v_6 : Int32) (rv_6 : Rg 5 5 v_6) (v_7 : Int32) (rv_7 : Rg 0 1 v_7) (v_8 : Int32) (rv_8 : Rg 0 20 v_8) (hm_9 : 20 < (v_8 : Int32).toInt + (n_12 : Int)), WG p l e { frames := 14, cells := 0, slots := 0, locals := 341 } s m ([.ref x, .ref a0, .ref a1, .int a2] : List Value).toArray below meth c 6 0 0 (MQ below (Qi_ D cy L κ ln R (fun r I2 J2 => Iv L κ R ow I2 ∧ Fq L κ ow [704, 705, 1007, 1008, 1009, 1011, 1012, 52000, 52100, 52200] I I2 ∧ Fq L κ ow [1010] J J2 ∧ Rg 0 1 r)) ([.ref x, .ref a0, .ref a1, .int a2] : List Value).toArray s 0 0 (Al_ L)) D cy (Al_ L) s.heap L κ ln R I_1 J_2 12 [(0, .ref x), (1, .ref a0), (2, .ref a1), (3, .int v_6), (4, .int v_7), (5, .int v_8)] [] := by
    intro n_12
    induction n_12 with
    | zero =>
      intro I_1 J_2 hU_3 hF_4 hG_5 v_6 rv_6 v_7 rv_7 v_8 rv_8 hm_9
      exact ms_0 rv_8 hm_9
    | succ n_12 ih_12 =>
      intro I_1 J_2 hU_3 hF_4 hG_5 v_6 rv_6 v_7 rv_7 v_8 rv_8 hm_9
      have j_62 : ∀ (I_10 : Nat → Nat → Int32) (J_11 : Nat → Nat → Int64) (hU_12 : Iv L κ R ow I_10) (hF_13 : Fq L κ ow [704, 705, 1007, 1008, 1009, 1011, 1012, 52000, 52100, 52200] I I_10) (hG_14 : Fq L κ ow [1010] J J_11) (v_15 : Int32) (rv_15 : Rg 5 5 v_15) (v_16 : Int32) (rv_16 : Rg 1 1 v_16) (nv_16_0 : ¬ v_16 = 0) (v_17 : Int32) (rv_17 : Rg 0 19 v_17) (hm_18 : 20 < (v_17 : Int32).toInt + ((n_12 + 1 : Nat) : Int)), WG p l e { frames := 14, cells := 0, slots := 0, locals := 341 } s m ([.ref x, .ref a0, .ref a1, .int a2] : List Value).toArray below meth c 6 0 0 (MQ below (Qi_ D cy L κ ln R (fun r I2 J2 => Iv L κ R ow I2 ∧ Fq L κ ow [704, 705, 1007, 1008, 1009, 1011, 1012, 52000, 52100, 52200] I I2 ∧ Fq L κ ow [1010] J J2 ∧ Rg 0 1 r)) ([.ref x, .ref a0, .ref a1, .int a2] : List Value).toArray s 0 0 (Al_ L)) D cy (Al_ L) s.heap L κ ln R I_10 J_11 62 [(0, .ref x), (1, .ref a0), (2, .ref a1), (3, .int v_15), (4, .int v_16), (5, .int v_17)] [] := by
        intro I_10 J_11 hU_12 hF_13 hG_14 v_15 rv_15 v_16 rv_16 nv_16_0 v_17 rv_17 hm_18
        refine g_iconst C (v := 0) dX7_readAll_62 (by decide) ?_
        refine g_istore C dX7_readAll_63 (by decide) (lo2 := [(4, .int 0), (0, .ref x), (1, .ref a0), (2, .ref a1), (3, .int v_15), (5, .int v_17)]) rfl ?_
        obtain ⟨x_19, hx_19, rx_19, tx_19⟩ := ex_add (y := 1) 1 20 rv_17 rc_1 (by decide) (by decide) (by decide) (by decide)
        refine g_iinc C dX7_readAll_65 (k := 5) (v := x_19) rfl hx_19 (by decide) (lo2 := [(5, .int x_19), (4, .int 0), (0, .ref x), (1, .ref a0), (2, .ref a1), (3, .int v_15)]) rfl ?_
        refine g_goto C (tgt := 12) dX7_readAll_68 (by decide) ?_
        refine g_lo (is := [2, 3, 4, 5, 1, 0]) (lo2 := [(0, .ref x), (1, .ref a0), (2, .ref a1), (3, .int v_15), (4, .int 0), (5, .int x_19)]) rfl ?_
        exact ih_12 I_10 J_11 hU_12 hF_13 hG_14 v_15 (rv_15) 0 (rg_w rc_0 (by decide) (by decide)) x_19 (rg_w rx_19 (by decide) (by decide)) (ms_1 hm_18 (ti_k tx_19 rc_1) (by decide))
      refine g_iload C 5 dX7_readAll_12 rfl ?_
      refine g_bipush C (v := 20) dX7_readAll_14 (by decide) ?_
      refine g_icmp_ge C (tgt := 71) dX7_readAll_16 (by decide) (fun h_20 => ?_) (fun h_20 => ?_)
      · skip
        have r_21 := le_r (h_20) rc_20 rv_8
        refine g_iload C 4 dX7_readAll_71 rfl ?_
        exact g_zret (ty := .boolean) (r := v_7) B K rfl (nar_z (rv_7)) ⟨hU_3, hF_4, hG_5, rv_7⟩ dX7_readAll_73
      · skip
        have r_22 := lt_l (hi := 19) (nle h_20) rv_8 rc_20 (by decide)
        refine g_iload C 4 dX7_readAll_19 rfl ?_
        refine g_if_eq C (tgt := 71) dX7_readAll_21 (by decide) (fun h_23 => ?_) (fun h_23 => ?_)
        · skip
          have r_24 := (⟨(rv_7).1, (eq_rg (h_23) rc_0).2⟩ : Rg 0 0 v_7)
          refine g_iload C 4 dX7_readAll_71 rfl ?_
          exact g_zret (ty := .boolean) (r := v_7) B K rfl (nar_z (rg_w r_24 (by decide) (by decide))) ⟨hU_3, hF_4, hG_5, rg_w r_24 (by decide) (by decide)⟩ dX7_readAll_73
        · skip
          have n_25 : ¬ v_7 = 0 := h_23
          have r_26 := ne_lo (lo := 1) n_25 rv_7 rc_0 rfl (by decide)
          refine g_aload_n C 1 dX7_readAll_24 rfl rfl ?_
          obtain ⟨x_27, hx_27, rx_27⟩ := ex_get (I := I_1) (a := a0) (j := 8) (lo := (-2147483648)) (hi := 2147483647) hU_3.1 hLa0 (ro_o hka0 (by decide)) rfl
          refine g_getI C K hLa0 hka0 f_7_57 (v := x_27) hx_27 dX7_readAll_25 ?_
          refine g_bipush C (v := 18) dX7_readAll_28 (by decide) ?_
          refine g_icmp_ne C (tgt := 71) dX7_readAll_30 (by decide) (fun h_28 => ?_) (fun h_28 => ?_)
          · skip
            have n_29 : ¬ x_27 = 18 := h_28
            refine g_iload C 4 dX7_readAll_71 rfl ?_
            exact g_zret (ty := .boolean) (r := v_7) B K rfl (nar_z (rg_w r_26 (by decide) (by decide))) ⟨hU_3, hF_4, hG_5, rg_w r_26 (by decide) (by decide)⟩ dX7_readAll_73
          · skip
            have r_30 := (⟨(eq_rg (h_28) rc_18).1, (eq_rg (h_28) rc_18).2⟩ : Rg 18 18 x_27)
            refine g_aload_n C 1 dX7_readAll_33 rfl rfl ?_
            refine g_callVV C K (c_X10_advance W9 hLa0 hka0   hU_3) hLa0 hka0 (by decide) rfl v_7_60 rfl ⟨rfl, rfl⟩ ⟨Nat.le_of_ble_eq_true rfl, Nat.le_of_ble_eq_true rfl⟩ (Nat.le_of_ble_eq_true rfl) ⟨Nat.le_of_ble_eq_true rfl, Nat.le_of_ble_eq_true rfl⟩ dX7_readAll_34 rfl (st := []) (fun I_32 J_33 h_34 => ?_)
            obtain ⟨hUI_32, hFI_32, hGJ_33, fx_31⟩ := h_34
            have hF_35 := fq_tr hF_4 hFI_32 (by decide)
            have hG_36 := fq_tr hG_5 hGJ_33 (by decide)
            refine g_aload_n C 0 dX7_readAll_37 rfl rfl ?_
            refine g_aload_n C 1 dX7_readAll_38 rfl rfl ?_
            refine g_aload_n C 2 dX7_readAll_39 rfl rfl ?_
            refine g_iload_n C 3 dX7_readAll_40 rfl rfl ?_
            refine g_callVI C K (c_X7_readOne_5 W9 hLx hkx hLa0 hka0 hLa1 hka1 v_6 (rv_6) hUI_32) hLx hkx (by decide) rfl v_7_67 rfl ⟨rfl, rfl⟩ ⟨Nat.le_of_ble_eq_true rfl, Nat.le_of_ble_eq_true rfl⟩ (Nat.le_of_ble_eq_true rfl) ⟨Nat.le_of_ble_eq_true rfl, Nat.le_of_ble_eq_true rfl⟩ dX7_readAll_41 rfl (st := []) (fun x_37 I_38 J_39 h_40 => ?_)
            obtain ⟨hUI_38, hFI_38, hGJ_39, rx_37⟩ := h_40
            have hF_41 := fq_tr hF_35 hFI_38 (by decide)
            have hG_42 := fq_tr hG_36 hGJ_39 (by decide)
            refine g_if_eq C (tgt := 62) dX7_readAll_44 (by decide) (fun h_43 => ?_) (fun h_43 => ?_)
            · skip
              have r_44 := (⟨(rx_37).1, (eq_rg (h_43) rc_0).2⟩ : Rg 0 0 x_37)
              refine g_lo (is := [0, 1, 2, 3, 4, 5]) (lo2 := [(0, .ref x), (1, .ref a0), (2, .ref a1), (3, .int v_6), (4, .int v_7), (5, .int v_8)]) rfl ?_
              exact j_62 I_38 J_39 hUI_38 hF_41 hG_42 v_6 (rv_6) v_7 (r_26) (n_25) v_8 (r_22) hm_9
            · skip
              have n_45 : ¬ x_37 = 0 := h_43
              have r_46 := ne_lo (lo := 1) n_45 rx_37 rc_0 rfl (by decide)
              refine g_aload_n C 0 dX7_readAll_47 rfl rfl ?_
              refine g_bipush C (v := 18) dX7_readAll_48 (by decide) ?_
              refine g_iconst C (v := 0) dX7_readAll_50 (by decide) ?_
              refine g_iconst C (v := 0) dX7_readAll_51 (by decide) ?_
              refine g_callVI C K (c_X7_addStep W9 hLx hkx 18 0 0 (rg_w rc_0 (by decide) (by decide)) hUI_38  (fun q => absurd q (by decide))) hLx hkx (by decide) rfl v_7_63 rfl ⟨rfl, rfl⟩ ⟨Nat.le_of_ble_eq_true rfl, Nat.le_of_ble_eq_true rfl⟩ (Nat.le_of_ble_eq_true rfl) ⟨Nat.le_of_ble_eq_true rfl, Nat.le_of_ble_eq_true rfl⟩ dX7_readAll_52 rfl (st := []) (fun x_47 I_48 J_49 h_50 => ?_)
              obtain ⟨hUI_48, hFI_48, hGJ_49, rx_47⟩ := h_50
              have hF_51 := fq_tr hF_41 hFI_48 (by decide)
              have hG_52 := fq_tr hG_42 hGJ_49 (by decide)
              refine g_if_eq C (tgt := 62) dX7_readAll_55 (by decide) (fun h_53 => ?_) (fun h_53 => ?_)
              · skip
                have r_54 := (⟨(rx_47).1, (eq_rg (h_53) rc_0).2⟩ : Rg 0 0 x_47)
                refine g_lo (is := [0, 1, 2, 3, 4, 5]) (lo2 := [(0, .ref x), (1, .ref a0), (2, .ref a1), (3, .int v_6), (4, .int v_7), (5, .int v_8)]) rfl ?_
                exact j_62 I_48 J_49 hUI_48 hF_51 hG_52 v_6 (rv_6) v_7 (r_26) (n_25) v_8 (r_22) hm_9
              · skip
                have n_55 : ¬ x_47 = 0 := h_53
                have r_56 := ne_lo (lo := 1) n_55 rx_47 rc_0 rfl (by decide)
                refine g_iconst C (v := 1) dX7_readAll_58 (by decide) ?_
                refine g_goto C (tgt := 63) dX7_readAll_59 (by decide) ?_
                refine g_istore C dX7_readAll_63 (by decide) (lo2 := [(4, .int 1), (0, .ref x), (1, .ref a0), (2, .ref a1), (3, .int v_6), (5, .int v_8)]) rfl ?_
                obtain ⟨x_57, hx_57, rx_57, tx_57⟩ := ex_add (y := 1) 1 20 r_22 rc_1 (by decide) (by decide) (by decide) (by decide)
                refine g_iinc C dX7_readAll_65 (k := 5) (v := x_57) rfl hx_57 (by decide) (lo2 := [(5, .int x_57), (4, .int 1), (0, .ref x), (1, .ref a0), (2, .ref a1), (3, .int v_6)]) rfl ?_
                refine g_goto C (tgt := 12) dX7_readAll_68 (by decide) ?_
                refine g_lo (is := [2, 3, 4, 5, 1, 0]) (lo2 := [(0, .ref x), (1, .ref a0), (2, .ref a1), (3, .int v_6), (4, .int 1), (5, .int x_57)]) rfl ?_
                exact ih_12 I_48 J_49 hUI_48 hF_51 hG_52 v_6 (rv_6) 1 (rg_w rc_1 (by decide) (by decide)) x_57 (rg_w rx_57 (by decide) (by decide)) (ms_1 hm_9 (ti_k tx_57 rc_1) (by decide))
  refine g_aload_n C 0 dX7_readAll_0 rfl rfl ?_
  refine g_aload_n C 1 dX7_readAll_1 rfl rfl ?_
  refine g_aload_n C 2 dX7_readAll_2 rfl rfl ?_
  refine g_iload_n C 3 dX7_readAll_3 rfl rfl ?_
  refine g_callVI C K (c_X7_readOne_5 W9 hLx hkx hLa0 hka0 hLa1 hka1 a2 (ra2) hU) hLx hkx (by decide) rfl v_7_67 rfl ⟨rfl, rfl⟩ ⟨Nat.le_of_ble_eq_true rfl, Nat.le_of_ble_eq_true rfl⟩ (Nat.le_of_ble_eq_true rfl) ⟨Nat.le_of_ble_eq_true rfl, Nat.le_of_ble_eq_true rfl⟩ dX7_readAll_4 rfl (st := []) (fun x_58 I_59 J_60 h_61 => ?_)
  obtain ⟨hUI_59, hFI_59, hGJ_60, rx_58⟩ := h_61
  have hF_62 := fq_tr hF hFI_59 (by decide)
  have hG_63 := fq_tr hG hGJ_60 (by decide)
  refine g_istore C dX7_readAll_7 (by decide) (lo2 := [(4, .int x_58), (0, .ref x), (1, .ref a0), (2, .ref a1), (3, .int a2)]) rfl ?_
  refine g_iconst C (v := 0) dX7_readAll_9 (by decide) ?_
  refine g_istore C dX7_readAll_10 (by decide) (lo2 := [(5, .int 0), (4, .int x_58), (0, .ref x), (1, .ref a0), (2, .ref a1), (3, .int a2)]) rfl ?_
  refine g_lo (is := [2, 3, 4, 5, 1, 0]) (lo2 := [(0, .ref x), (1, .ref a0), (2, .ref a1), (3, .int a2), (4, .int x_58), (5, .int 0)]) rfl ?_
  exact l_12 21 I_59 J_60 hUI_59 hF_62 hG_63 a2 (ra2) x_58 (rx_58) 0 (rg_w rc_0 (by decide) (by decide)) (ms_s (a := 0) (b := 20) (N := 21) (rg_w rc_0 (by decide) (by decide)) (by decide))
set_option maxRecDepth 100000 in
set_option maxHeartbeats 8000000 in
theorem c_X7_readCond_5 {l : Launch} {D : va_G} {cy : Nat → ClassId} {L : List Nat} {κ ln : Nat → Nat} {R : Nat → Nat → Option Nat} {I : Nat → Nat → Int32} {J : Nat → Nat → Int64} {ow : Nat → Nat × Nat} (W9 : ∀ a ∈ L, Shp L κ ln R ow a) {x : Nat} (hLx : x ∈ L) (hkx : κ x = 7) {a0 : Nat} (hLa0 : a0 ∈ L) (hka0 : κ a0 = 10) {a1 : Nat} (hLa1 : a1 ∈ L) (hka1 : κ a1 = 8) (a2 : Int32) (ra2 : Rg 5 5 a2) (hU : Iv L κ R ow I) : CtI l yX7_readCond cX7_readCond 6 (some .boolean) { frames := 15, cells := 0, slots := 0, locals := 366 } D cy L κ ln R I J [.ref x, .ref a0, .ref a1, .int a2] (fun r I2 J2 => Iv L κ R ow I2 ∧ Fq L κ ow [704, 705, 1007, 1008, 1009, 1011, 1012, 52000, 52100, 52200] I I2 ∧ Fq L κ ow [1010] J J2 ∧ Rg 0 1 r) := by
  refine CtI.of (by decide +kernel) (Nat.le_of_ble_eq_true rfl) ?_
  intro p e s m below meth c B K
  have C := B.1
  have hF : Fq L κ ow [704, 705, 1007, 1008, 1009, 1011, 1012, 52000, 52100, 52200] I I := fq_rf
  have hG : Fq L κ ow [1010] J J := fq_rf
  refine g_lo (is := [0, 1, 2, 3]) (lo2 := [(0, .ref x), (1, .ref a0), (2, .ref a1), (3, .int a2)]) rfl ?_
  have l_12 : ∀ (n_12 : Nat) (I_1 : Nat → Nat → Int32) (J_2 : Nat → Nat → Int64) (hU_3 : Iv L κ R ow I_1) (hF_4 : Fq L κ ow [704, 705, 1007, 1008, 1009, 1011, 1012, 52000, 52100, 52200] I I_1) (hG_5 : Fq L κ ow [1010] J J_2) (v_6 : Int32) (rv_6 : Rg 5 5 v_6) (v_7 : Int32) (rv_7 : Rg 0 1 v_7) (v_8 : Int32) (rv_8 : Rg 0 20 v_8) (hm_9 : 20 < (v_8 : Int32).toInt + (n_12 : Int)), WG p l e { frames := 15, cells := 0, slots := 0, locals := 366 } s m ([.ref x, .ref a0, .ref a1, .int a2] : List Value).toArray below meth c 6 0 0 (MQ below (Qi_ D cy L κ ln R (fun r I2 J2 => Iv L κ R ow I2 ∧ Fq L κ ow [704, 705, 1007, 1008, 1009, 1011, 1012, 52000, 52100, 52200] I I2 ∧ Fq L κ ow [1010] J J2 ∧ Rg 0 1 r)) ([.ref x, .ref a0, .ref a1, .int a2] : List Value).toArray s 0 0 (Al_ L)) D cy (Al_ L) s.heap L κ ln R I_1 J_2 12 [(0, .ref x), (1, .ref a0), (2, .ref a1), (3, .int v_6), (4, .int v_7), (5, .int v_8)] [] := by
    intro n_12
    induction n_12 with
    | zero =>
      intro I_1 J_2 hU_3 hF_4 hG_5 v_6 rv_6 v_7 rv_7 v_8 rv_8 hm_9
      exact ms_0 rv_8 hm_9
    | succ n_12 ih_12 =>
      intro I_1 J_2 hU_3 hF_4 hG_5 v_6 rv_6 v_7 rv_7 v_8 rv_8 hm_9
      have j_62 : ∀ (I_10 : Nat → Nat → Int32) (J_11 : Nat → Nat → Int64) (hU_12 : Iv L κ R ow I_10) (hF_13 : Fq L κ ow [704, 705, 1007, 1008, 1009, 1011, 1012, 52000, 52100, 52200] I I_10) (hG_14 : Fq L κ ow [1010] J J_11) (v_15 : Int32) (rv_15 : Rg 5 5 v_15) (v_16 : Int32) (rv_16 : Rg 1 1 v_16) (nv_16_0 : ¬ v_16 = 0) (v_17 : Int32) (rv_17 : Rg 0 19 v_17) (hm_18 : 20 < (v_17 : Int32).toInt + ((n_12 + 1 : Nat) : Int)), WG p l e { frames := 15, cells := 0, slots := 0, locals := 366 } s m ([.ref x, .ref a0, .ref a1, .int a2] : List Value).toArray below meth c 6 0 0 (MQ below (Qi_ D cy L κ ln R (fun r I2 J2 => Iv L κ R ow I2 ∧ Fq L κ ow [704, 705, 1007, 1008, 1009, 1011, 1012, 52000, 52100, 52200] I I2 ∧ Fq L κ ow [1010] J J2 ∧ Rg 0 1 r)) ([.ref x, .ref a0, .ref a1, .int a2] : List Value).toArray s 0 0 (Al_ L)) D cy (Al_ L) s.heap L κ ln R I_10 J_11 62 [(0, .ref x), (1, .ref a0), (2, .ref a1), (3, .int v_15), (4, .int v_16), (5, .int v_17)] [] := by
        intro I_10 J_11 hU_12 hF_13 hG_14 v_15 rv_15 v_16 rv_16 nv_16_0 v_17 rv_17 hm_18
        refine g_iconst C (v := 0) dX7_readCond_62 (by decide) ?_
        refine g_istore C dX7_readCond_63 (by decide) (lo2 := [(4, .int 0), (0, .ref x), (1, .ref a0), (2, .ref a1), (3, .int v_15), (5, .int v_17)]) rfl ?_
        obtain ⟨x_19, hx_19, rx_19, tx_19⟩ := ex_add (y := 1) 1 20 rv_17 rc_1 (by decide) (by decide) (by decide) (by decide)
        refine g_iinc C dX7_readCond_65 (k := 5) (v := x_19) rfl hx_19 (by decide) (lo2 := [(5, .int x_19), (4, .int 0), (0, .ref x), (1, .ref a0), (2, .ref a1), (3, .int v_15)]) rfl ?_
        refine g_goto C (tgt := 12) dX7_readCond_68 (by decide) ?_
        refine g_lo (is := [2, 3, 4, 5, 1, 0]) (lo2 := [(0, .ref x), (1, .ref a0), (2, .ref a1), (3, .int v_15), (4, .int 0), (5, .int x_19)]) rfl ?_
        exact ih_12 I_10 J_11 hU_12 hF_13 hG_14 v_15 (rv_15) 0 (rg_w rc_0 (by decide) (by decide)) x_19 (rg_w rx_19 (by decide) (by decide)) (ms_1 hm_18 (ti_k tx_19 rc_1) (by decide))
      refine g_iload C 5 dX7_readCond_12 rfl ?_
      refine g_bipush C (v := 20) dX7_readCond_14 (by decide) ?_
      refine g_icmp_ge C (tgt := 71) dX7_readCond_16 (by decide) (fun h_20 => ?_) (fun h_20 => ?_)
      · skip
        have r_21 := le_r (h_20) rc_20 rv_8
        refine g_iload C 4 dX7_readCond_71 rfl ?_
        exact g_zret (ty := .boolean) (r := v_7) B K rfl (nar_z (rv_7)) ⟨hU_3, hF_4, hG_5, rv_7⟩ dX7_readCond_73
      · skip
        have r_22 := lt_l (hi := 19) (nle h_20) rv_8 rc_20 (by decide)
        refine g_iload C 4 dX7_readCond_19 rfl ?_
        refine g_if_eq C (tgt := 71) dX7_readCond_21 (by decide) (fun h_23 => ?_) (fun h_23 => ?_)
        · skip
          have r_24 := (⟨(rv_7).1, (eq_rg (h_23) rc_0).2⟩ : Rg 0 0 v_7)
          refine g_iload C 4 dX7_readCond_71 rfl ?_
          exact g_zret (ty := .boolean) (r := v_7) B K rfl (nar_z (rg_w r_24 (by decide) (by decide))) ⟨hU_3, hF_4, hG_5, rg_w r_24 (by decide) (by decide)⟩ dX7_readCond_73
        · skip
          have n_25 : ¬ v_7 = 0 := h_23
          have r_26 := ne_lo (lo := 1) n_25 rv_7 rc_0 rfl (by decide)
          refine g_aload_n C 1 dX7_readCond_24 rfl rfl ?_
          obtain ⟨x_27, hx_27, rx_27⟩ := ex_get (I := I_1) (a := a0) (j := 8) (lo := (-2147483648)) (hi := 2147483647) hU_3.1 hLa0 (ro_o hka0 (by decide)) rfl
          refine g_getI C K hLa0 hka0 f_7_57 (v := x_27) hx_27 dX7_readCond_25 ?_
          refine g_bipush C (v := 17) dX7_readCond_28 (by decide) ?_
          refine g_icmp_ne C (tgt := 71) dX7_readCond_30 (by decide) (fun h_28 => ?_) (fun h_28 => ?_)
          · skip
            have n_29 : ¬ x_27 = 17 := h_28
            refine g_iload C 4 dX7_readCond_71 rfl ?_
            exact g_zret (ty := .boolean) (r := v_7) B K rfl (nar_z (rg_w r_26 (by decide) (by decide))) ⟨hU_3, hF_4, hG_5, rg_w r_26 (by decide) (by decide)⟩ dX7_readCond_73
          · skip
            have r_30 := (⟨(eq_rg (h_28) rc_17).1, (eq_rg (h_28) rc_17).2⟩ : Rg 17 17 x_27)
            refine g_aload_n C 1 dX7_readCond_33 rfl rfl ?_
            refine g_callVV C K (c_X10_advance W9 hLa0 hka0   hU_3) hLa0 hka0 (by decide) rfl v_7_60 rfl ⟨rfl, rfl⟩ ⟨Nat.le_of_ble_eq_true rfl, Nat.le_of_ble_eq_true rfl⟩ (Nat.le_of_ble_eq_true rfl) ⟨Nat.le_of_ble_eq_true rfl, Nat.le_of_ble_eq_true rfl⟩ dX7_readCond_34 rfl (st := []) (fun I_32 J_33 h_34 => ?_)
            obtain ⟨hUI_32, hFI_32, hGJ_33, fx_31⟩ := h_34
            have hF_35 := fq_tr hF_4 hFI_32 (by decide)
            have hG_36 := fq_tr hG_5 hGJ_33 (by decide)
            refine g_aload_n C 0 dX7_readCond_37 rfl rfl ?_
            refine g_aload_n C 1 dX7_readCond_38 rfl rfl ?_
            refine g_aload_n C 2 dX7_readCond_39 rfl rfl ?_
            refine g_iload_n C 3 dX7_readCond_40 rfl rfl ?_
            refine g_callVI C K (c_X7_readAll_5 W9 hLx hkx hLa0 hka0 hLa1 hka1 v_6 (rv_6) hUI_32) hLx hkx (by decide) rfl v_7_54 rfl ⟨rfl, rfl⟩ ⟨Nat.le_of_ble_eq_true rfl, Nat.le_of_ble_eq_true rfl⟩ (Nat.le_of_ble_eq_true rfl) ⟨Nat.le_of_ble_eq_true rfl, Nat.le_of_ble_eq_true rfl⟩ dX7_readCond_41 rfl (st := []) (fun x_37 I_38 J_39 h_40 => ?_)
            obtain ⟨hUI_38, hFI_38, hGJ_39, rx_37⟩ := h_40
            have hF_41 := fq_tr hF_35 hFI_38 (by decide)
            have hG_42 := fq_tr hG_36 hGJ_39 (by decide)
            refine g_if_eq C (tgt := 62) dX7_readCond_44 (by decide) (fun h_43 => ?_) (fun h_43 => ?_)
            · skip
              have r_44 := (⟨(rx_37).1, (eq_rg (h_43) rc_0).2⟩ : Rg 0 0 x_37)
              refine g_lo (is := [0, 1, 2, 3, 4, 5]) (lo2 := [(0, .ref x), (1, .ref a0), (2, .ref a1), (3, .int v_6), (4, .int v_7), (5, .int v_8)]) rfl ?_
              exact j_62 I_38 J_39 hUI_38 hF_41 hG_42 v_6 (rv_6) v_7 (r_26) (n_25) v_8 (r_22) hm_9
            · skip
              have n_45 : ¬ x_37 = 0 := h_43
              have r_46 := ne_lo (lo := 1) n_45 rx_37 rc_0 rfl (by decide)
              refine g_aload_n C 0 dX7_readCond_47 rfl rfl ?_
              refine g_bipush C (v := 17) dX7_readCond_48 (by decide) ?_
              refine g_iconst C (v := 0) dX7_readCond_50 (by decide) ?_
              refine g_iconst C (v := 0) dX7_readCond_51 (by decide) ?_
              refine g_callVI C K (c_X7_addStep W9 hLx hkx 17 0 0 (rg_w rc_0 (by decide) (by decide)) hUI_38  (fun q => absurd q (by decide))) hLx hkx (by decide) rfl v_7_63 rfl ⟨rfl, rfl⟩ ⟨Nat.le_of_ble_eq_true rfl, Nat.le_of_ble_eq_true rfl⟩ (Nat.le_of_ble_eq_true rfl) ⟨Nat.le_of_ble_eq_true rfl, Nat.le_of_ble_eq_true rfl⟩ dX7_readCond_52 rfl (st := []) (fun x_47 I_48 J_49 h_50 => ?_)
              obtain ⟨hUI_48, hFI_48, hGJ_49, rx_47⟩ := h_50
              have hF_51 := fq_tr hF_41 hFI_48 (by decide)
              have hG_52 := fq_tr hG_42 hGJ_49 (by decide)
              refine g_if_eq C (tgt := 62) dX7_readCond_55 (by decide) (fun h_53 => ?_) (fun h_53 => ?_)
              · skip
                have r_54 := (⟨(rx_47).1, (eq_rg (h_53) rc_0).2⟩ : Rg 0 0 x_47)
                refine g_lo (is := [0, 1, 2, 3, 4, 5]) (lo2 := [(0, .ref x), (1, .ref a0), (2, .ref a1), (3, .int v_6), (4, .int v_7), (5, .int v_8)]) rfl ?_
                exact j_62 I_48 J_49 hUI_48 hF_51 hG_52 v_6 (rv_6) v_7 (r_26) (n_25) v_8 (r_22) hm_9
              · skip
                have n_55 : ¬ x_47 = 0 := h_53
                have r_56 := ne_lo (lo := 1) n_55 rx_47 rc_0 rfl (by decide)
                refine g_iconst C (v := 1) dX7_readCond_58 (by decide) ?_
                refine g_goto C (tgt := 63) dX7_readCond_59 (by decide) ?_
                refine g_istore C dX7_readCond_63 (by decide) (lo2 := [(4, .int 1), (0, .ref x), (1, .ref a0), (2, .ref a1), (3, .int v_6), (5, .int v_8)]) rfl ?_
                obtain ⟨x_57, hx_57, rx_57, tx_57⟩ := ex_add (y := 1) 1 20 r_22 rc_1 (by decide) (by decide) (by decide) (by decide)
                refine g_iinc C dX7_readCond_65 (k := 5) (v := x_57) rfl hx_57 (by decide) (lo2 := [(5, .int x_57), (4, .int 1), (0, .ref x), (1, .ref a0), (2, .ref a1), (3, .int v_6)]) rfl ?_
                refine g_goto C (tgt := 12) dX7_readCond_68 (by decide) ?_
                refine g_lo (is := [2, 3, 4, 5, 1, 0]) (lo2 := [(0, .ref x), (1, .ref a0), (2, .ref a1), (3, .int v_6), (4, .int 1), (5, .int x_57)]) rfl ?_
                exact ih_12 I_48 J_49 hUI_48 hF_51 hG_52 v_6 (rv_6) 1 (rg_w rc_1 (by decide) (by decide)) x_57 (rg_w rx_57 (by decide) (by decide)) (ms_1 hm_9 (ti_k tx_57 rc_1) (by decide))
  refine g_aload_n C 0 dX7_readCond_0 rfl rfl ?_
  refine g_aload_n C 1 dX7_readCond_1 rfl rfl ?_
  refine g_aload_n C 2 dX7_readCond_2 rfl rfl ?_
  refine g_iload_n C 3 dX7_readCond_3 rfl rfl ?_
  refine g_callVI C K (c_X7_readAll_5 W9 hLx hkx hLa0 hka0 hLa1 hka1 a2 (ra2) hU) hLx hkx (by decide) rfl v_7_54 rfl ⟨rfl, rfl⟩ ⟨Nat.le_of_ble_eq_true rfl, Nat.le_of_ble_eq_true rfl⟩ (Nat.le_of_ble_eq_true rfl) ⟨Nat.le_of_ble_eq_true rfl, Nat.le_of_ble_eq_true rfl⟩ dX7_readCond_4 rfl (st := []) (fun x_58 I_59 J_60 h_61 => ?_)
  obtain ⟨hUI_59, hFI_59, hGJ_60, rx_58⟩ := h_61
  have hF_62 := fq_tr hF hFI_59 (by decide)
  have hG_63 := fq_tr hG hGJ_60 (by decide)
  refine g_istore C dX7_readCond_7 (by decide) (lo2 := [(4, .int x_58), (0, .ref x), (1, .ref a0), (2, .ref a1), (3, .int a2)]) rfl ?_
  refine g_iconst C (v := 0) dX7_readCond_9 (by decide) ?_
  refine g_istore C dX7_readCond_10 (by decide) (lo2 := [(5, .int 0), (4, .int x_58), (0, .ref x), (1, .ref a0), (2, .ref a1), (3, .int a2)]) rfl ?_
  refine g_lo (is := [2, 3, 4, 5, 1, 0]) (lo2 := [(0, .ref x), (1, .ref a0), (2, .ref a1), (3, .int a2), (4, .int x_58), (5, .int 0)]) rfl ?_
  exact l_12 21 I_59 J_60 hUI_59 hF_62 hG_63 a2 (ra2) x_58 (rx_58) 0 (rg_w rc_0 (by decide) (by decide)) (ms_s (a := 0) (b := 20) (N := 21) (rg_w rc_0 (by decide) (by decide)) (by decide))
set_option maxRecDepth 100000 in
set_option maxHeartbeats 8000000 in
theorem c_X7_readOne_4 {l : Launch} {D : va_G} {cy : Nat → ClassId} {L : List Nat} {κ ln : Nat → Nat} {R : Nat → Nat → Option Nat} {I : Nat → Nat → Int32} {J : Nat → Nat → Int64} {ow : Nat → Nat × Nat} (W9 : ∀ a ∈ L, Shp L κ ln R ow a) {x : Nat} (hLx : x ∈ L) (hkx : κ x = 7) {a0 : Nat} (hLa0 : a0 ∈ L) (hka0 : κ a0 = 10) {a1 : Nat} (hLa1 : a1 ∈ L) (hka1 : κ a1 = 8) (a2 : Int32) (ra2 : Rg 4 4 a2) (hU : Iv L κ R ow I) : CtI l yX7_readOne cX7_readOne 5 (some .boolean) { frames := 16, cells := 0, slots := 0, locals := 391 } D cy L κ ln R I J [.ref x, .ref a0, .ref a1, .int a2] (fun r I2 J2 => Iv L κ R ow I2 ∧ Fq L κ ow [704, 705, 1007, 1008, 1009, 1011, 1012, 52000, 52100, 52200] I I2 ∧ Fq L κ ow [1010] J J2 ∧ Rg 0 1 r) := by
  refine CtI.of (by decide +kernel) (Nat.le_of_ble_eq_true rfl) ?_
  intro p e s m below meth c B K
  have C := B.1
  have hF : Fq L κ ow [704, 705, 1007, 1008, 1009, 1011, 1012, 52000, 52100, 52200] I I := fq_rf
  have hG : Fq L κ ow [1010] J J := fq_rf
  refine g_lo (is := [0, 1, 2, 3]) (lo2 := [(0, .ref x), (1, .ref a0), (2, .ref a1), (3, .int a2)]) rfl ?_
  have j_35 : ∀ (I_1 : Nat → Nat → Int32) (J_2 : Nat → Nat → Int64) (hU_3 : Iv L κ R ow I_1) (hF_4 : Fq L κ ow [704, 705, 1007, 1008, 1009, 1011, 1012, 52000, 52100, 52200] I I_1) (hG_5 : Fq L κ ow [1010] J J_2) (v_6 : Int32) (rv_6 : Rg 4 4 v_6) (v_7 : Int32) (v_8 : Int32) (rv_8 : Rg 20 2147483647 v_8) (q_9 : I_1 a0 8 = v_7) (q_10 : I_1 x 5 = v_8), WG p l e { frames := 16, cells := 0, slots := 0, locals := 391 } s m ([.ref x, .ref a0, .ref a1, .int a2] : List Value).toArray below meth c 5 0 0 (MQ below (Qi_ D cy L κ ln R (fun r I2 J2 => Iv L κ R ow I2 ∧ Fq L κ ow [704, 705, 1007, 1008, 1009, 1011, 1012, 52000, 52100, 52200] I I2 ∧ Fq L κ ow [1010] J J2 ∧ Rg 0 1 r)) ([.ref x, .ref a0, .ref a1, .int a2] : List Value).toArray s 0 0 (Al_ L)) D cy (Al_ L) s.heap L κ ln R I_1 J_2 35 [(0, .ref x), (1, .ref a0), (2, .ref a1), (3, .int v_6), (4, .int v_7)] [] := by
    intro I_1 J_2 hU_3 hF_4 hG_5 v_6 rv_6 v_7 v_8 rv_8 q_9 q_10
    refine g_aload_n C 1 dX7_readOne_35 rfl rfl ?_
    refine g_iconst C (v := 4) dX7_readOne_36 (by decide) ?_
    refine g_callVI C K (c_X10_fail W9 hLa0 hka0 4 (rg_w rc_4 (by decide) (by decide)) hU_3) hLa0 hka0 (by decide) rfl v_7_73 rfl ⟨rfl, rfl⟩ ⟨Nat.le_of_ble_eq_true rfl, Nat.le_of_ble_eq_true rfl⟩ (Nat.le_of_ble_eq_true rfl) ⟨Nat.le_of_ble_eq_true rfl, Nat.le_of_ble_eq_true rfl⟩ dX7_readOne_37 rfl (st := []) (fun x_11 I_12 J_13 h_14 => ?_)
    obtain ⟨hUI_12, hFI_12, hGJ_13, rx_11, fx_11⟩ := h_14
    have hF_15 := fq_tr hF_4 hFI_12 (by decide)
    have hG_16 := fq_tr hG_5 hGJ_13 (by decide)
    exact g_zret (ty := .boolean) (r := x_11) B K rfl (nar_z (rg_w rx_11 (by decide) (by decide))) ⟨hUI_12, hF_15, hG_16, rg_w rx_11 (by decide) (by decide)⟩ dX7_readOne_40
  refine g_aload_n C 1 dX7_readOne_0 rfl rfl ?_
  obtain ⟨x_17, hx_17, rx_17⟩ := ex_get (I := I) (a := a0) (j := 8) (lo := (-2147483648)) (hi := 2147483647) hU.1 hLa0 (ro_o hka0 (by decide)) rfl
  refine g_getI C K hLa0 hka0 f_7_57 (v := x_17) hx_17 dX7_readOne_1 ?_
  refine g_istore C dX7_readOne_4 (by decide) (lo2 := [(4, .int x_17), (0, .ref x), (1, .ref a0), (2, .ref a1), (3, .int a2)]) rfl ?_
  refine g_iload C 0 dX7_readOne_6 rfl ?_
  refine g_callSI C K (c_X7_beginsOne W9 x_17  hU) s_7_70 rfl ⟨rfl, rfl⟩ ⟨Nat.le_of_ble_eq_true rfl, Nat.le_of_ble_eq_true rfl⟩ (Nat.le_of_ble_eq_true rfl) ⟨Nat.le_of_ble_eq_true rfl, Nat.le_of_ble_eq_true rfl⟩ dX7_readOne_8 rfl (st := []) (fun x_18 I_19 J_20 h_21 => ?_)
  obtain ⟨rfl, rfl, rx_18⟩ := h_21
  refine g_if_ne C (tgt := 20) dX7_readOne_11 (by decide) (fun h_22 => ?_) (fun h_22 => ?_)
  · skip
    have n_23 : ¬ x_18 = 0 := h_22
    have r_24 := ne_lo (lo := 1) n_23 rx_18 rc_0 rfl (by decide)
    refine g_aload_n C 1 dX7_readOne_20 rfl rfl ?_
    obtain ⟨x_25, hx_25, rx_25⟩ := ex_get (I := I) (a := x) (j := 5) (lo := (-2147483648)) (hi := 2147483647) hU.1 hLx (ro_o hkx (by decide)) rfl
    refine g_getI C K hLx hkx f_7_28 (v := x_25) hx_25 dX7_readOne_21 ?_
    refine g_bipush C (v := 20) dX7_readOne_24 (by decide) ?_
    refine g_icmp_ge C (tgt := 35) dX7_readOne_26 (by decide) (fun h_26 => ?_) (fun h_26 => ?_)
    · skip
      have r_27 := le_r (h_26) rc_20 rx_25
      refine g_lo (is := [1, 2, 3, 4, 0]) (lo2 := [(0, .ref x), (1, .ref a0), (2, .ref a1), (3, .int a2), (4, .int x_17)]) rfl ?_
      exact j_35 I J hU hF hG a2 (ra2) x_17 x_25 (r_27) hx_17 hx_25
    · skip
      have r_28 := lt_l (hi := 19) (nle h_26) rx_25 rc_20 (by decide)
      refine g_iload_n C 4 dX7_readOne_29 rfl rfl ?_
      refine g_bipush C (v := 8) dX7_readOne_30 (by decide) ?_
      refine g_icmp_le C (tgt := 41) dX7_readOne_32 (by decide) (fun h_29 => ?_) (fun h_29 => ?_)
      · skip
        refine g_aload_n C 1 dX7_readOne_41 rfl rfl ?_
        refine g_dup C dX7_readOne_42 rfl ?_
        refine g_getI C K hLx hkx f_7_28 (v := x_25) hx_25 dX7_readOne_43 ?_
        refine g_iconst C (v := 1) dX7_readOne_46 (by decide) ?_
        obtain ⟨x_30, hx_30, rx_30, tx_30⟩ := ex_add (-2147483647) 20 r_28 rc_1 (by decide) (by decide) (by decide) (by decide)
        refine g_iadd C (v := x_30) dX7_readOne_47 hx_30 ?_
        refine h_putI C K hLx hkx f_7_28 p_7_5 dX7_readOne_48 (fun I_31 hI_31 => ?_)
        have hU_32 := iv_put W9 hU hI_31 (ro_o hkx (by decide)) (lo := (-2147483648)) (hi := 2147483647) (rfl) (rg_all _) rfl
        have hF_33 := fq_puto hF hI_31 hkx (by decide) (by decide)
        refine g_aload_n C 2 dX7_readOne_51 rfl rfl ?_
        refine g_callVV C K (c_X10_advance W9 hLa0 hka0   hU_32) hLa0 hka0 (by decide) rfl v_7_60 rfl ⟨rfl, rfl⟩ ⟨Nat.le_of_ble_eq_true rfl, Nat.le_of_ble_eq_true rfl⟩ (Nat.le_of_ble_eq_true rfl) ⟨Nat.le_of_ble_eq_true rfl, Nat.le_of_ble_eq_true rfl⟩ dX7_readOne_52 rfl (st := []) (fun I_35 J_36 h_37 => ?_)
        obtain ⟨hUI_35, hFI_35, hGJ_36, fx_34⟩ := h_37
        have hF_38 := fq_tr hF_33 hFI_35 (by decide)
        have hG_39 := fq_tr hG hGJ_36 (by decide)
        refine g_iload C 0 dX7_readOne_55 rfl ?_
        refine g_bipush C (v := 40) dX7_readOne_57 (by decide) ?_
        refine g_icmp_ne C (tgt := 89) dX7_readOne_59 (by decide) (fun h_40 => ?_) (fun h_40 => ?_)
        · skip
          have n_41 : ¬ x_17 = 40 := h_40
          refine g_iload C 0 dX7_readOne_89 rfl ?_
          refine g_bipush C (v := 19) dX7_readOne_91 (by decide) ?_
          refine g_icmp_ne C (tgt := 125) dX7_readOne_93 (by decide) (fun h_42 => ?_) (fun h_42 => ?_)
          · skip
            have n_43 : ¬ x_17 = 19 := h_42
            refine g_aload_n C 1 dX7_readOne_125 rfl rfl ?_
            refine g_aload_n C 2 dX7_readOne_126 rfl rfl ?_
            refine g_aload_n C 3 dX7_readOne_127 rfl rfl ?_
            refine g_iload C 0 dX7_readOne_128 rfl ?_
            refine g_callVI C K (c_X7_readPlainOne W9 hLx hkx hLa0 hka0 hLa1 hka1 x_17  hUI_35) hLx hkx (by decide) rfl v_7_76 rfl ⟨rfl, rfl⟩ ⟨Nat.le_of_ble_eq_true rfl, Nat.le_of_ble_eq_true rfl⟩ (Nat.le_of_ble_eq_true rfl) ⟨Nat.le_of_ble_eq_true rfl, Nat.le_of_ble_eq_true rfl⟩ dX7_readOne_130 rfl (st := []) (fun x_44 I_45 J_46 h_47 => ?_)
            obtain ⟨hUI_45, hFI_45, hGJ_46, rx_44⟩ := h_47
            have hF_48 := fq_tr hF_38 hFI_45 (by decide)
            have hG_49 := fq_tr hG_39 hGJ_46 (by decide)
            exact g_zret (ty := .boolean) (r := x_44) B K rfl (nar_z (rx_44)) ⟨hUI_45, hF_48, hG_49, rx_44⟩ dX7_readOne_133
          · skip
            have r_50 := (⟨(eq_rg (h_42) rc_19).1, (eq_rg (h_42) rc_19).2⟩ : Rg 19 19 x_17)
            refine g_aload_n C 1 dX7_readOne_96 rfl rfl ?_
            refine g_aload_n C 2 dX7_readOne_97 rfl rfl ?_
            refine g_aload_n C 3 dX7_readOne_98 rfl rfl ?_
            refine g_iload_n C 4 dX7_readOne_99 rfl rfl ?_
            refine g_iconst C (v := 1) dX7_readOne_100 (by decide) ?_
            obtain ⟨x_51, hx_51, rx_51, tx_51⟩ := ex_add 5 5 ra2 rc_1 (by decide) (by decide) (by decide) (by decide)
            refine g_iadd C (v := x_51) dX7_readOne_101 hx_51 ?_
            refine g_callVI C K (c_X7_readOne_5 W9 hLx hkx hLa0 hka0 hLa1 hka1 x_51 (rx_51) hUI_35) hLx hkx (by decide) rfl v_7_67 rfl ⟨rfl, rfl⟩ ⟨Nat.le_of_ble_eq_true rfl, Nat.le_of_ble_eq_true rfl⟩ (Nat.le_of_ble_eq_true rfl) ⟨Nat.le_of_ble_eq_true rfl, Nat.le_of_ble_eq_true rfl⟩ dX7_readOne_102 rfl (st := []) (fun x_52 I_53 J_54 h_55 => ?_)
            obtain ⟨hUI_53, hFI_53, hGJ_54, rx_52⟩ := h_55
            have hF_56 := fq_tr hF_38 hFI_53 (by decide)
            have hG_57 := fq_tr hG_39 hGJ_54 (by decide)
            refine g_if_eq C (tgt := 123) dX7_readOne_105 (by decide) (fun h_58 => ?_) (fun h_58 => ?_)
            · skip
              have r_59 := (⟨(rx_52).1, (eq_rg (h_58) rc_0).2⟩ : Rg 0 0 x_52)
              refine g_iconst C (v := 0) dX7_readOne_123 (by decide) ?_
              exact g_zret (ty := .boolean) (r := 0) B K rfl (rfl) ⟨hUI_53, hF_56, hG_57, rg_w rc_0 (by decide) (by decide)⟩ dX7_readOne_124
            · skip
              have n_60 : ¬ x_52 = 0 := h_58
              have r_61 := ne_lo (lo := 1) n_60 rx_52 rc_0 rfl (by decide)
              refine g_aload_n C 1 dX7_readOne_108 rfl rfl ?_
              refine g_bipush C (v := 19) dX7_readOne_109 (by decide) ?_
              refine g_iconst C (v := 0) dX7_readOne_111 (by decide) ?_
              refine g_iconst C (v := 0) dX7_readOne_112 (by decide) ?_
              refine g_callVI C K (c_X7_addStep W9 hLx hkx 19 0 0 (rg_w rc_0 (by decide) (by decide)) hUI_53  (fun q => absurd q (by decide))) hLx hkx (by decide) rfl v_7_63 rfl ⟨rfl, rfl⟩ ⟨Nat.le_of_ble_eq_true rfl, Nat.le_of_ble_eq_true rfl⟩ (Nat.le_of_ble_eq_true rfl) ⟨Nat.le_of_ble_eq_true rfl, Nat.le_of_ble_eq_true rfl⟩ dX7_readOne_113 rfl (st := []) (fun x_62 I_63 J_64 h_65 => ?_)
              obtain ⟨hUI_63, hFI_63, hGJ_64, rx_62⟩ := h_65
              have hF_66 := fq_tr hF_56 hFI_63 (by decide)
              have hG_67 := fq_tr hG_57 hGJ_64 (by decide)
              refine g_if_eq C (tgt := 123) dX7_readOne_116 (by decide) (fun h_68 => ?_) (fun h_68 => ?_)
              · skip
                have r_69 := (⟨(rx_62).1, (eq_rg (h_68) rc_0).2⟩ : Rg 0 0 x_62)
                refine g_iconst C (v := 0) dX7_readOne_123 (by decide) ?_
                exact g_zret (ty := .boolean) (r := 0) B K rfl (rfl) ⟨hUI_63, hF_66, hG_67, rg_w rc_0 (by decide) (by decide)⟩ dX7_readOne_124
              · skip
                have n_70 : ¬ x_62 = 0 := h_68
                have r_71 := ne_lo (lo := 1) n_70 rx_62 rc_0 rfl (by decide)
                refine g_iconst C (v := 1) dX7_readOne_119 (by decide) ?_
                refine g_goto C (tgt := 124) dX7_readOne_120 (by decide) ?_
                exact g_zret (ty := .boolean) (r := 1) B K rfl (rfl) ⟨hUI_63, hF_66, hG_67, rg_w rc_1 (by decide) (by decide)⟩ dX7_readOne_124
        · skip
          have r_72 := (⟨(eq_rg (h_40) rc_40).1, (eq_rg (h_40) rc_40).2⟩ : Rg 40 40 x_17)
          refine g_aload_n C 1 dX7_readOne_62 rfl rfl ?_
          refine g_aload_n C 2 dX7_readOne_63 rfl rfl ?_
          refine g_aload_n C 3 dX7_readOne_64 rfl rfl ?_
          refine g_iload_n C 4 dX7_readOne_65 rfl rfl ?_
          refine g_iconst C (v := 1) dX7_readOne_66 (by decide) ?_
          obtain ⟨x_73, hx_73, rx_73, tx_73⟩ := ex_add 5 5 ra2 rc_1 (by decide) (by decide) (by decide) (by decide)
          refine g_iadd C (v := x_73) dX7_readOne_67 hx_73 ?_
          refine g_callVI C K (c_X7_readCond_5 W9 hLx hkx hLa0 hka0 hLa1 hka1 x_73 (rx_73) hUI_35) hLx hkx (by decide) rfl v_7_46 rfl ⟨rfl, rfl⟩ ⟨Nat.le_of_ble_eq_true rfl, Nat.le_of_ble_eq_true rfl⟩ (Nat.le_of_ble_eq_true rfl) ⟨Nat.le_of_ble_eq_true rfl, Nat.le_of_ble_eq_true rfl⟩ dX7_readOne_68 rfl (st := []) (fun x_74 I_75 J_76 h_77 => ?_)
          obtain ⟨hUI_75, hFI_75, hGJ_76, rx_74⟩ := h_77
          have hF_78 := fq_tr hF_38 hFI_75 (by decide)
          have hG_79 := fq_tr hG_39 hGJ_76 (by decide)
          refine g_if_eq C (tgt := 87) dX7_readOne_71 (by decide) (fun h_80 => ?_) (fun h_80 => ?_)
          · skip
            have r_81 := (⟨(rx_74).1, (eq_rg (h_80) rc_0).2⟩ : Rg 0 0 x_74)
            refine g_iconst C (v := 0) dX7_readOne_87 (by decide) ?_
            exact g_zret (ty := .boolean) (r := 0) B K rfl (rfl) ⟨hUI_75, hF_78, hG_79, rg_w rc_0 (by decide) (by decide)⟩ dX7_readOne_88
          · skip
            have n_82 : ¬ x_74 = 0 := h_80
            have r_83 := ne_lo (lo := 1) n_82 rx_74 rc_0 rfl (by decide)
            refine g_aload_n C 2 dX7_readOne_74 rfl rfl ?_
            refine g_bipush C (v := 41) dX7_readOne_75 (by decide) ?_
            refine g_callVI C K (c_X10_take W9 hLa0 hka0 41 (rg_w rc_41 (by decide) (by decide)) hUI_75) hLa0 hka0 (by decide) rfl v_7_50 rfl ⟨rfl, rfl⟩ ⟨Nat.le_of_ble_eq_true rfl, Nat.le_of_ble_eq_true rfl⟩ (Nat.le_of_ble_eq_true rfl) ⟨Nat.le_of_ble_eq_true rfl, Nat.le_of_ble_eq_true rfl⟩ dX7_readOne_77 rfl (st := []) (fun x_84 I_85 J_86 h_87 => ?_)
            obtain ⟨hUI_85, hFI_85, hGJ_86, rx_84, fx_84⟩ := h_87
            have hF_88 := fq_tr hF_78 hFI_85 (by decide)
            have hG_89 := fq_tr hG_79 hGJ_86 (by decide)
            refine g_if_eq C (tgt := 87) dX7_readOne_80 (by decide) (fun h_90 => ?_) (fun h_90 => ?_)
            · skip
              have r_91 := (⟨(rx_84).1, (eq_rg (h_90) rc_0).2⟩ : Rg 0 0 x_84)
              refine g_iconst C (v := 0) dX7_readOne_87 (by decide) ?_
              exact g_zret (ty := .boolean) (r := 0) B K rfl (rfl) ⟨hUI_85, hF_88, hG_89, rg_w rc_0 (by decide) (by decide)⟩ dX7_readOne_88
            · skip
              have n_92 : ¬ x_84 = 0 := h_90
              have r_93 := ne_lo (lo := 1) n_92 rx_84 rc_0 rfl (by decide)
              refine g_iconst C (v := 1) dX7_readOne_83 (by decide) ?_
              refine g_goto C (tgt := 88) dX7_readOne_84 (by decide) ?_
              exact g_zret (ty := .boolean) (r := 1) B K rfl (rfl) ⟨hUI_85, hF_88, hG_89, rg_w rc_1 (by decide) (by decide)⟩ dX7_readOne_88
      · skip
        have r_94 := lt_r (lo := 9) (nle h_29) rc_8 ra2 (by decide)
        exact rg_no r_94 (by decide)
  · skip
    have r_95 := (⟨(rx_18).1, (eq_rg (h_22) rc_0).2⟩ : Rg 0 0 x_18)
    refine g_aload_n C 2 dX7_readOne_14 rfl rfl ?_
    refine g_iconst C (v := 1) dX7_readOne_15 (by decide) ?_
    refine g_callVI C K (c_X10_fail W9 hLa0 hka0 1 (rg_w rc_1 (by decide) (by decide)) hU) hLa0 hka0 (by decide) rfl v_7_73 rfl ⟨rfl, rfl⟩ ⟨Nat.le_of_ble_eq_true rfl, Nat.le_of_ble_eq_true rfl⟩ (Nat.le_of_ble_eq_true rfl) ⟨Nat.le_of_ble_eq_true rfl, Nat.le_of_ble_eq_true rfl⟩ dX7_readOne_16 rfl (st := []) (fun x_96 I_97 J_98 h_99 => ?_)
    obtain ⟨hUI_97, hFI_97, hGJ_98, rx_96, fx_96⟩ := h_99
    have hF_100 := fq_tr hF hFI_97 (by decide)
    have hG_101 := fq_tr hG hGJ_98 (by decide)
    exact g_zret (ty := .boolean) (r := x_96) B K rfl (nar_z (rg_w rx_96 (by decide) (by decide))) ⟨hUI_97, hF_100, hG_101, rg_w rx_96 (by decide) (by decide)⟩ dX7_readOne_19
set_option maxRecDepth 100000 in
set_option maxHeartbeats 8000000 in
theorem c_X7_readAll_4 {l : Launch} {D : va_G} {cy : Nat → ClassId} {L : List Nat} {κ ln : Nat → Nat} {R : Nat → Nat → Option Nat} {I : Nat → Nat → Int32} {J : Nat → Nat → Int64} {ow : Nat → Nat × Nat} (W9 : ∀ a ∈ L, Shp L κ ln R ow a) {x : Nat} (hLx : x ∈ L) (hkx : κ x = 7) {a0 : Nat} (hLa0 : a0 ∈ L) (hka0 : κ a0 = 10) {a1 : Nat} (hLa1 : a1 ∈ L) (hka1 : κ a1 = 8) (a2 : Int32) (ra2 : Rg 4 4 a2) (hU : Iv L κ R ow I) : CtI l yX7_readAll cX7_readAll 6 (some .boolean) { frames := 17, cells := 0, slots := 0, locals := 415 } D cy L κ ln R I J [.ref x, .ref a0, .ref a1, .int a2] (fun r I2 J2 => Iv L κ R ow I2 ∧ Fq L κ ow [704, 705, 1007, 1008, 1009, 1011, 1012, 52000, 52100, 52200] I I2 ∧ Fq L κ ow [1010] J J2 ∧ Rg 0 1 r) := by
  refine CtI.of (by decide +kernel) (Nat.le_of_ble_eq_true rfl) ?_
  intro p e s m below meth c B K
  have C := B.1
  have hF : Fq L κ ow [704, 705, 1007, 1008, 1009, 1011, 1012, 52000, 52100, 52200] I I := fq_rf
  have hG : Fq L κ ow [1010] J J := fq_rf
  refine g_lo (is := [0, 1, 2, 3]) (lo2 := [(0, .ref x), (1, .ref a0), (2, .ref a1), (3, .int a2)]) rfl ?_
  have l_12 : ∀ (n_12 : Nat) (I_1 : Nat → Nat → Int32) (J_2 : Nat → Nat → Int64) (hU_3 : Iv L κ R ow I_1) (hF_4 : Fq L κ ow [704, 705, 1007, 1008, 1009, 1011, 1012, 52000, 52100, 52200] I I_1) (hG_5 : Fq L κ ow [1010] J J_2) (v_6 : Int32) (rv_6 : Rg 4 4 v_6) (v_7 : Int32) (rv_7 : Rg 0 1 v_7) (v_8 : Int32) (rv_8 : Rg 0 20 v_8) (hm_9 : 20 < (v_8 : Int32).toInt + (n_12 : Int)), WG p l e { frames := 17, cells := 0, slots := 0, locals := 415 } s m ([.ref x, .ref a0, .ref a1, .int a2] : List Value).toArray below meth c 6 0 0 (MQ below (Qi_ D cy L κ ln R (fun r I2 J2 => Iv L κ R ow I2 ∧ Fq L κ ow [704, 705, 1007, 1008, 1009, 1011, 1012, 52000, 52100, 52200] I I2 ∧ Fq L κ ow [1010] J J2 ∧ Rg 0 1 r)) ([.ref x, .ref a0, .ref a1, .int a2] : List Value).toArray s 0 0 (Al_ L)) D cy (Al_ L) s.heap L κ ln R I_1 J_2 12 [(0, .ref x), (1, .ref a0), (2, .ref a1), (3, .int v_6), (4, .int v_7), (5, .int v_8)] [] := by
    intro n_12
    induction n_12 with
    | zero =>
      intro I_1 J_2 hU_3 hF_4 hG_5 v_6 rv_6 v_7 rv_7 v_8 rv_8 hm_9
      exact ms_0 rv_8 hm_9
    | succ n_12 ih_12 =>
      intro I_1 J_2 hU_3 hF_4 hG_5 v_6 rv_6 v_7 rv_7 v_8 rv_8 hm_9
      have j_62 : ∀ (I_10 : Nat → Nat → Int32) (J_11 : Nat → Nat → Int64) (hU_12 : Iv L κ R ow I_10) (hF_13 : Fq L κ ow [704, 705, 1007, 1008, 1009, 1011, 1012, 52000, 52100, 52200] I I_10) (hG_14 : Fq L κ ow [1010] J J_11) (v_15 : Int32) (rv_15 : Rg 4 4 v_15) (v_16 : Int32) (rv_16 : Rg 1 1 v_16) (nv_16_0 : ¬ v_16 = 0) (v_17 : Int32) (rv_17 : Rg 0 19 v_17) (hm_18 : 20 < (v_17 : Int32).toInt + ((n_12 + 1 : Nat) : Int)), WG p l e { frames := 17, cells := 0, slots := 0, locals := 415 } s m ([.ref x, .ref a0, .ref a1, .int a2] : List Value).toArray below meth c 6 0 0 (MQ below (Qi_ D cy L κ ln R (fun r I2 J2 => Iv L κ R ow I2 ∧ Fq L κ ow [704, 705, 1007, 1008, 1009, 1011, 1012, 52000, 52100, 52200] I I2 ∧ Fq L κ ow [1010] J J2 ∧ Rg 0 1 r)) ([.ref x, .ref a0, .ref a1, .int a2] : List Value).toArray s 0 0 (Al_ L)) D cy (Al_ L) s.heap L κ ln R I_10 J_11 62 [(0, .ref x), (1, .ref a0), (2, .ref a1), (3, .int v_15), (4, .int v_16), (5, .int v_17)] [] := by
        intro I_10 J_11 hU_12 hF_13 hG_14 v_15 rv_15 v_16 rv_16 nv_16_0 v_17 rv_17 hm_18
        refine g_iconst C (v := 0) dX7_readAll_62 (by decide) ?_
        refine g_istore C dX7_readAll_63 (by decide) (lo2 := [(4, .int 0), (0, .ref x), (1, .ref a0), (2, .ref a1), (3, .int v_15), (5, .int v_17)]) rfl ?_
        obtain ⟨x_19, hx_19, rx_19, tx_19⟩ := ex_add (y := 1) 1 20 rv_17 rc_1 (by decide) (by decide) (by decide) (by decide)
        refine g_iinc C dX7_readAll_65 (k := 5) (v := x_19) rfl hx_19 (by decide) (lo2 := [(5, .int x_19), (4, .int 0), (0, .ref x), (1, .ref a0), (2, .ref a1), (3, .int v_15)]) rfl ?_
        refine g_goto C (tgt := 12) dX7_readAll_68 (by decide) ?_
        refine g_lo (is := [2, 3, 4, 5, 1, 0]) (lo2 := [(0, .ref x), (1, .ref a0), (2, .ref a1), (3, .int v_15), (4, .int 0), (5, .int x_19)]) rfl ?_
        exact ih_12 I_10 J_11 hU_12 hF_13 hG_14 v_15 (rv_15) 0 (rg_w rc_0 (by decide) (by decide)) x_19 (rg_w rx_19 (by decide) (by decide)) (ms_1 hm_18 (ti_k tx_19 rc_1) (by decide))
      refine g_iload C 5 dX7_readAll_12 rfl ?_
      refine g_bipush C (v := 20) dX7_readAll_14 (by decide) ?_
      refine g_icmp_ge C (tgt := 71) dX7_readAll_16 (by decide) (fun h_20 => ?_) (fun h_20 => ?_)
      · skip
        have r_21 := le_r (h_20) rc_20 rv_8
        refine g_iload C 4 dX7_readAll_71 rfl ?_
        exact g_zret (ty := .boolean) (r := v_7) B K rfl (nar_z (rv_7)) ⟨hU_3, hF_4, hG_5, rv_7⟩ dX7_readAll_73
      · skip
        have r_22 := lt_l (hi := 19) (nle h_20) rv_8 rc_20 (by decide)
        refine g_iload C 4 dX7_readAll_19 rfl ?_
        refine g_if_eq C (tgt := 71) dX7_readAll_21 (by decide) (fun h_23 => ?_) (fun h_23 => ?_)
        · skip
          have r_24 := (⟨(rv_7).1, (eq_rg (h_23) rc_0).2⟩ : Rg 0 0 v_7)
          refine g_iload C 4 dX7_readAll_71 rfl ?_
          exact g_zret (ty := .boolean) (r := v_7) B K rfl (nar_z (rg_w r_24 (by decide) (by decide))) ⟨hU_3, hF_4, hG_5, rg_w r_24 (by decide) (by decide)⟩ dX7_readAll_73
        · skip
          have n_25 : ¬ v_7 = 0 := h_23
          have r_26 := ne_lo (lo := 1) n_25 rv_7 rc_0 rfl (by decide)
          refine g_aload_n C 1 dX7_readAll_24 rfl rfl ?_
          obtain ⟨x_27, hx_27, rx_27⟩ := ex_get (I := I_1) (a := a0) (j := 8) (lo := (-2147483648)) (hi := 2147483647) hU_3.1 hLa0 (ro_o hka0 (by decide)) rfl
          refine g_getI C K hLa0 hka0 f_7_57 (v := x_27) hx_27 dX7_readAll_25 ?_
          refine g_bipush C (v := 18) dX7_readAll_28 (by decide) ?_
          refine g_icmp_ne C (tgt := 71) dX7_readAll_30 (by decide) (fun h_28 => ?_) (fun h_28 => ?_)
          · skip
            have n_29 : ¬ x_27 = 18 := h_28
            refine g_iload C 4 dX7_readAll_71 rfl ?_
            exact g_zret (ty := .boolean) (r := v_7) B K rfl (nar_z (rg_w r_26 (by decide) (by decide))) ⟨hU_3, hF_4, hG_5, rg_w r_26 (by decide) (by decide)⟩ dX7_readAll_73
          · skip
            have r_30 := (⟨(eq_rg (h_28) rc_18).1, (eq_rg (h_28) rc_18).2⟩ : Rg 18 18 x_27)
            refine g_aload_n C 1 dX7_readAll_33 rfl rfl ?_
            refine g_callVV C K (c_X10_advance W9 hLa0 hka0   hU_3) hLa0 hka0 (by decide) rfl v_7_60 rfl ⟨rfl, rfl⟩ ⟨Nat.le_of_ble_eq_true rfl, Nat.le_of_ble_eq_true rfl⟩ (Nat.le_of_ble_eq_true rfl) ⟨Nat.le_of_ble_eq_true rfl, Nat.le_of_ble_eq_true rfl⟩ dX7_readAll_34 rfl (st := []) (fun I_32 J_33 h_34 => ?_)
            obtain ⟨hUI_32, hFI_32, hGJ_33, fx_31⟩ := h_34
            have hF_35 := fq_tr hF_4 hFI_32 (by decide)
            have hG_36 := fq_tr hG_5 hGJ_33 (by decide)
            refine g_aload_n C 0 dX7_readAll_37 rfl rfl ?_
            refine g_aload_n C 1 dX7_readAll_38 rfl rfl ?_
            refine g_aload_n C 2 dX7_readAll_39 rfl rfl ?_
            refine g_iload_n C 3 dX7_readAll_40 rfl rfl ?_
            refine g_callVI C K (c_X7_readOne_4 W9 hLx hkx hLa0 hka0 hLa1 hka1 v_6 (rv_6) hUI_32) hLx hkx (by decide) rfl v_7_67 rfl ⟨rfl, rfl⟩ ⟨Nat.le_of_ble_eq_true rfl, Nat.le_of_ble_eq_true rfl⟩ (Nat.le_of_ble_eq_true rfl) ⟨Nat.le_of_ble_eq_true rfl, Nat.le_of_ble_eq_true rfl⟩ dX7_readAll_41 rfl (st := []) (fun x_37 I_38 J_39 h_40 => ?_)
            obtain ⟨hUI_38, hFI_38, hGJ_39, rx_37⟩ := h_40
            have hF_41 := fq_tr hF_35 hFI_38 (by decide)
            have hG_42 := fq_tr hG_36 hGJ_39 (by decide)
            refine g_if_eq C (tgt := 62) dX7_readAll_44 (by decide) (fun h_43 => ?_) (fun h_43 => ?_)
            · skip
              have r_44 := (⟨(rx_37).1, (eq_rg (h_43) rc_0).2⟩ : Rg 0 0 x_37)
              refine g_lo (is := [0, 1, 2, 3, 4, 5]) (lo2 := [(0, .ref x), (1, .ref a0), (2, .ref a1), (3, .int v_6), (4, .int v_7), (5, .int v_8)]) rfl ?_
              exact j_62 I_38 J_39 hUI_38 hF_41 hG_42 v_6 (rv_6) v_7 (r_26) (n_25) v_8 (r_22) hm_9
            · skip
              have n_45 : ¬ x_37 = 0 := h_43
              have r_46 := ne_lo (lo := 1) n_45 rx_37 rc_0 rfl (by decide)
              refine g_aload_n C 0 dX7_readAll_47 rfl rfl ?_
              refine g_bipush C (v := 18) dX7_readAll_48 (by decide) ?_
              refine g_iconst C (v := 0) dX7_readAll_50 (by decide) ?_
              refine g_iconst C (v := 0) dX7_readAll_51 (by decide) ?_
              refine g_callVI C K (c_X7_addStep W9 hLx hkx 18 0 0 (rg_w rc_0 (by decide) (by decide)) hUI_38  (fun q => absurd q (by decide))) hLx hkx (by decide) rfl v_7_63 rfl ⟨rfl, rfl⟩ ⟨Nat.le_of_ble_eq_true rfl, Nat.le_of_ble_eq_true rfl⟩ (Nat.le_of_ble_eq_true rfl) ⟨Nat.le_of_ble_eq_true rfl, Nat.le_of_ble_eq_true rfl⟩ dX7_readAll_52 rfl (st := []) (fun x_47 I_48 J_49 h_50 => ?_)
              obtain ⟨hUI_48, hFI_48, hGJ_49, rx_47⟩ := h_50
              have hF_51 := fq_tr hF_41 hFI_48 (by decide)
              have hG_52 := fq_tr hG_42 hGJ_49 (by decide)
              refine g_if_eq C (tgt := 62) dX7_readAll_55 (by decide) (fun h_53 => ?_) (fun h_53 => ?_)
              · skip
                have r_54 := (⟨(rx_47).1, (eq_rg (h_53) rc_0).2⟩ : Rg 0 0 x_47)
                refine g_lo (is := [0, 1, 2, 3, 4, 5]) (lo2 := [(0, .ref x), (1, .ref a0), (2, .ref a1), (3, .int v_6), (4, .int v_7), (5, .int v_8)]) rfl ?_
                exact j_62 I_48 J_49 hUI_48 hF_51 hG_52 v_6 (rv_6) v_7 (r_26) (n_25) v_8 (r_22) hm_9
              · skip
                have n_55 : ¬ x_47 = 0 := h_53
                have r_56 := ne_lo (lo := 1) n_55 rx_47 rc_0 rfl (by decide)
                refine g_iconst C (v := 1) dX7_readAll_58 (by decide) ?_
                refine g_goto C (tgt := 63) dX7_readAll_59 (by decide) ?_
                refine g_istore C dX7_readAll_63 (by decide) (lo2 := [(4, .int 1), (0, .ref x), (1, .ref a0), (2, .ref a1), (3, .int v_6), (5, .int v_8)]) rfl ?_
                obtain ⟨x_57, hx_57, rx_57, tx_57⟩ := ex_add (y := 1) 1 20 r_22 rc_1 (by decide) (by decide) (by decide) (by decide)
                refine g_iinc C dX7_readAll_65 (k := 5) (v := x_57) rfl hx_57 (by decide) (lo2 := [(5, .int x_57), (4, .int 1), (0, .ref x), (1, .ref a0), (2, .ref a1), (3, .int v_6)]) rfl ?_
                refine g_goto C (tgt := 12) dX7_readAll_68 (by decide) ?_
                refine g_lo (is := [2, 3, 4, 5, 1, 0]) (lo2 := [(0, .ref x), (1, .ref a0), (2, .ref a1), (3, .int v_6), (4, .int 1), (5, .int x_57)]) rfl ?_
                exact ih_12 I_48 J_49 hUI_48 hF_51 hG_52 v_6 (rv_6) 1 (rg_w rc_1 (by decide) (by decide)) x_57 (rg_w rx_57 (by decide) (by decide)) (ms_1 hm_9 (ti_k tx_57 rc_1) (by decide))
  refine g_aload_n C 0 dX7_readAll_0 rfl rfl ?_
  refine g_aload_n C 1 dX7_readAll_1 rfl rfl ?_
  refine g_aload_n C 2 dX7_readAll_2 rfl rfl ?_
  refine g_iload_n C 3 dX7_readAll_3 rfl rfl ?_
  refine g_callVI C K (c_X7_readOne_4 W9 hLx hkx hLa0 hka0 hLa1 hka1 a2 (ra2) hU) hLx hkx (by decide) rfl v_7_67 rfl ⟨rfl, rfl⟩ ⟨Nat.le_of_ble_eq_true rfl, Nat.le_of_ble_eq_true rfl⟩ (Nat.le_of_ble_eq_true rfl) ⟨Nat.le_of_ble_eq_true rfl, Nat.le_of_ble_eq_true rfl⟩ dX7_readAll_4 rfl (st := []) (fun x_58 I_59 J_60 h_61 => ?_)
  obtain ⟨hUI_59, hFI_59, hGJ_60, rx_58⟩ := h_61
  have hF_62 := fq_tr hF hFI_59 (by decide)
  have hG_63 := fq_tr hG hGJ_60 (by decide)
  refine g_istore C dX7_readAll_7 (by decide) (lo2 := [(4, .int x_58), (0, .ref x), (1, .ref a0), (2, .ref a1), (3, .int a2)]) rfl ?_
  refine g_iconst C (v := 0) dX7_readAll_9 (by decide) ?_
  refine g_istore C dX7_readAll_10 (by decide) (lo2 := [(5, .int 0), (4, .int x_58), (0, .ref x), (1, .ref a0), (2, .ref a1), (3, .int a2)]) rfl ?_
  refine g_lo (is := [2, 3, 4, 5, 1, 0]) (lo2 := [(0, .ref x), (1, .ref a0), (2, .ref a1), (3, .int a2), (4, .int x_58), (5, .int 0)]) rfl ?_
  exact l_12 21 I_59 J_60 hUI_59 hF_62 hG_63 a2 (ra2) x_58 (rx_58) 0 (rg_w rc_0 (by decide) (by decide)) (ms_s (a := 0) (b := 20) (N := 21) (rg_w rc_0 (by decide) (by decide)) (by decide))
set_option maxRecDepth 100000 in
set_option maxHeartbeats 8000000 in
theorem c_X7_readCond_4 {l : Launch} {D : va_G} {cy : Nat → ClassId} {L : List Nat} {κ ln : Nat → Nat} {R : Nat → Nat → Option Nat} {I : Nat → Nat → Int32} {J : Nat → Nat → Int64} {ow : Nat → Nat × Nat} (W9 : ∀ a ∈ L, Shp L κ ln R ow a) {x : Nat} (hLx : x ∈ L) (hkx : κ x = 7) {a0 : Nat} (hLa0 : a0 ∈ L) (hka0 : κ a0 = 10) {a1 : Nat} (hLa1 : a1 ∈ L) (hka1 : κ a1 = 8) (a2 : Int32) (ra2 : Rg 4 4 a2) (hU : Iv L κ R ow I) : CtI l yX7_readCond cX7_readCond 6 (some .boolean) { frames := 18, cells := 0, slots := 0, locals := 440 } D cy L κ ln R I J [.ref x, .ref a0, .ref a1, .int a2] (fun r I2 J2 => Iv L κ R ow I2 ∧ Fq L κ ow [704, 705, 1007, 1008, 1009, 1011, 1012, 52000, 52100, 52200] I I2 ∧ Fq L κ ow [1010] J J2 ∧ Rg 0 1 r) := by
  refine CtI.of (by decide +kernel) (Nat.le_of_ble_eq_true rfl) ?_
  intro p e s m below meth c B K
  have C := B.1
  have hF : Fq L κ ow [704, 705, 1007, 1008, 1009, 1011, 1012, 52000, 52100, 52200] I I := fq_rf
  have hG : Fq L κ ow [1010] J J := fq_rf
  refine g_lo (is := [0, 1, 2, 3]) (lo2 := [(0, .ref x), (1, .ref a0), (2, .ref a1), (3, .int a2)]) rfl ?_
  have l_12 : ∀ (n_12 : Nat) (I_1 : Nat → Nat → Int32) (J_2 : Nat → Nat → Int64) (hU_3 : Iv L κ R ow I_1) (hF_4 : Fq L κ ow [704, 705, 1007, 1008, 1009, 1011, 1012, 52000, 52100, 52200] I I_1) (hG_5 : Fq L κ ow [1010] J J_2) (v_6 : Int32) (rv_6 : Rg 4 4 v_6) (v_7 : Int32) (rv_7 : Rg 0 1 v_7) (v_8 : Int32) (rv_8 : Rg 0 20 v_8) (hm_9 : 20 < (v_8 : Int32).toInt + (n_12 : Int)), WG p l e { frames := 18, cells := 0, slots := 0, locals := 440 } s m ([.ref x, .ref a0, .ref a1, .int a2] : List Value).toArray below meth c 6 0 0 (MQ below (Qi_ D cy L κ ln R (fun r I2 J2 => Iv L κ R ow I2 ∧ Fq L κ ow [704, 705, 1007, 1008, 1009, 1011, 1012, 52000, 52100, 52200] I I2 ∧ Fq L κ ow [1010] J J2 ∧ Rg 0 1 r)) ([.ref x, .ref a0, .ref a1, .int a2] : List Value).toArray s 0 0 (Al_ L)) D cy (Al_ L) s.heap L κ ln R I_1 J_2 12 [(0, .ref x), (1, .ref a0), (2, .ref a1), (3, .int v_6), (4, .int v_7), (5, .int v_8)] [] := by
    intro n_12
    induction n_12 with
    | zero =>
      intro I_1 J_2 hU_3 hF_4 hG_5 v_6 rv_6 v_7 rv_7 v_8 rv_8 hm_9
      exact ms_0 rv_8 hm_9
    | succ n_12 ih_12 =>
      intro I_1 J_2 hU_3 hF_4 hG_5 v_6 rv_6 v_7 rv_7 v_8 rv_8 hm_9
      have j_62 : ∀ (I_10 : Nat → Nat → Int32) (J_11 : Nat → Nat → Int64) (hU_12 : Iv L κ R ow I_10) (hF_13 : Fq L κ ow [704, 705, 1007, 1008, 1009, 1011, 1012, 52000, 52100, 52200] I I_10) (hG_14 : Fq L κ ow [1010] J J_11) (v_15 : Int32) (rv_15 : Rg 4 4 v_15) (v_16 : Int32) (rv_16 : Rg 1 1 v_16) (nv_16_0 : ¬ v_16 = 0) (v_17 : Int32) (rv_17 : Rg 0 19 v_17) (hm_18 : 20 < (v_17 : Int32).toInt + ((n_12 + 1 : Nat) : Int)), WG p l e { frames := 18, cells := 0, slots := 0, locals := 440 } s m ([.ref x, .ref a0, .ref a1, .int a2] : List Value).toArray below meth c 6 0 0 (MQ below (Qi_ D cy L κ ln R (fun r I2 J2 => Iv L κ R ow I2 ∧ Fq L κ ow [704, 705, 1007, 1008, 1009, 1011, 1012, 52000, 52100, 52200] I I2 ∧ Fq L κ ow [1010] J J2 ∧ Rg 0 1 r)) ([.ref x, .ref a0, .ref a1, .int a2] : List Value).toArray s 0 0 (Al_ L)) D cy (Al_ L) s.heap L κ ln R I_10 J_11 62 [(0, .ref x), (1, .ref a0), (2, .ref a1), (3, .int v_15), (4, .int v_16), (5, .int v_17)] [] := by
        intro I_10 J_11 hU_12 hF_13 hG_14 v_15 rv_15 v_16 rv_16 nv_16_0 v_17 rv_17 hm_18
        refine g_iconst C (v := 0) dX7_readCond_62 (by decide) ?_
        refine g_istore C dX7_readCond_63 (by decide) (lo2 := [(4, .int 0), (0, .ref x), (1, .ref a0), (2, .ref a1), (3, .int v_15), (5, .int v_17)]) rfl ?_
        obtain ⟨x_19, hx_19, rx_19, tx_19⟩ := ex_add (y := 1) 1 20 rv_17 rc_1 (by decide) (by decide) (by decide) (by decide)
        refine g_iinc C dX7_readCond_65 (k := 5) (v := x_19) rfl hx_19 (by decide) (lo2 := [(5, .int x_19), (4, .int 0), (0, .ref x), (1, .ref a0), (2, .ref a1), (3, .int v_15)]) rfl ?_
        refine g_goto C (tgt := 12) dX7_readCond_68 (by decide) ?_
        refine g_lo (is := [2, 3, 4, 5, 1, 0]) (lo2 := [(0, .ref x), (1, .ref a0), (2, .ref a1), (3, .int v_15), (4, .int 0), (5, .int x_19)]) rfl ?_
        exact ih_12 I_10 J_11 hU_12 hF_13 hG_14 v_15 (rv_15) 0 (rg_w rc_0 (by decide) (by decide)) x_19 (rg_w rx_19 (by decide) (by decide)) (ms_1 hm_18 (ti_k tx_19 rc_1) (by decide))
      refine g_iload C 5 dX7_readCond_12 rfl ?_
      refine g_bipush C (v := 20) dX7_readCond_14 (by decide) ?_
      refine g_icmp_ge C (tgt := 71) dX7_readCond_16 (by decide) (fun h_20 => ?_) (fun h_20 => ?_)
      · skip
        have r_21 := le_r (h_20) rc_20 rv_8
        refine g_iload C 4 dX7_readCond_71 rfl ?_
        exact g_zret (ty := .boolean) (r := v_7) B K rfl (nar_z (rv_7)) ⟨hU_3, hF_4, hG_5, rv_7⟩ dX7_readCond_73
      · skip
        have r_22 := lt_l (hi := 19) (nle h_20) rv_8 rc_20 (by decide)
        refine g_iload C 4 dX7_readCond_19 rfl ?_
        refine g_if_eq C (tgt := 71) dX7_readCond_21 (by decide) (fun h_23 => ?_) (fun h_23 => ?_)
        · skip
          have r_24 := (⟨(rv_7).1, (eq_rg (h_23) rc_0).2⟩ : Rg 0 0 v_7)
          refine g_iload C 4 dX7_readCond_71 rfl ?_
          exact g_zret (ty := .boolean) (r := v_7) B K rfl (nar_z (rg_w r_24 (by decide) (by decide))) ⟨hU_3, hF_4, hG_5, rg_w r_24 (by decide) (by decide)⟩ dX7_readCond_73
        · skip
          have n_25 : ¬ v_7 = 0 := h_23
          have r_26 := ne_lo (lo := 1) n_25 rv_7 rc_0 rfl (by decide)
          refine g_aload_n C 1 dX7_readCond_24 rfl rfl ?_
          obtain ⟨x_27, hx_27, rx_27⟩ := ex_get (I := I_1) (a := a0) (j := 8) (lo := (-2147483648)) (hi := 2147483647) hU_3.1 hLa0 (ro_o hka0 (by decide)) rfl
          refine g_getI C K hLa0 hka0 f_7_57 (v := x_27) hx_27 dX7_readCond_25 ?_
          refine g_bipush C (v := 17) dX7_readCond_28 (by decide) ?_
          refine g_icmp_ne C (tgt := 71) dX7_readCond_30 (by decide) (fun h_28 => ?_) (fun h_28 => ?_)
          · skip
            have n_29 : ¬ x_27 = 17 := h_28
            refine g_iload C 4 dX7_readCond_71 rfl ?_
            exact g_zret (ty := .boolean) (r := v_7) B K rfl (nar_z (rg_w r_26 (by decide) (by decide))) ⟨hU_3, hF_4, hG_5, rg_w r_26 (by decide) (by decide)⟩ dX7_readCond_73
          · skip
            have r_30 := (⟨(eq_rg (h_28) rc_17).1, (eq_rg (h_28) rc_17).2⟩ : Rg 17 17 x_27)
            refine g_aload_n C 1 dX7_readCond_33 rfl rfl ?_
            refine g_callVV C K (c_X10_advance W9 hLa0 hka0   hU_3) hLa0 hka0 (by decide) rfl v_7_60 rfl ⟨rfl, rfl⟩ ⟨Nat.le_of_ble_eq_true rfl, Nat.le_of_ble_eq_true rfl⟩ (Nat.le_of_ble_eq_true rfl) ⟨Nat.le_of_ble_eq_true rfl, Nat.le_of_ble_eq_true rfl⟩ dX7_readCond_34 rfl (st := []) (fun I_32 J_33 h_34 => ?_)
            obtain ⟨hUI_32, hFI_32, hGJ_33, fx_31⟩ := h_34
            have hF_35 := fq_tr hF_4 hFI_32 (by decide)
            have hG_36 := fq_tr hG_5 hGJ_33 (by decide)
            refine g_aload_n C 0 dX7_readCond_37 rfl rfl ?_
            refine g_aload_n C 1 dX7_readCond_38 rfl rfl ?_
            refine g_aload_n C 2 dX7_readCond_39 rfl rfl ?_
            refine g_iload_n C 3 dX7_readCond_40 rfl rfl ?_
            refine g_callVI C K (c_X7_readAll_4 W9 hLx hkx hLa0 hka0 hLa1 hka1 v_6 (rv_6) hUI_32) hLx hkx (by decide) rfl v_7_54 rfl ⟨rfl, rfl⟩ ⟨Nat.le_of_ble_eq_true rfl, Nat.le_of_ble_eq_true rfl⟩ (Nat.le_of_ble_eq_true rfl) ⟨Nat.le_of_ble_eq_true rfl, Nat.le_of_ble_eq_true rfl⟩ dX7_readCond_41 rfl (st := []) (fun x_37 I_38 J_39 h_40 => ?_)
            obtain ⟨hUI_38, hFI_38, hGJ_39, rx_37⟩ := h_40
            have hF_41 := fq_tr hF_35 hFI_38 (by decide)
            have hG_42 := fq_tr hG_36 hGJ_39 (by decide)
            refine g_if_eq C (tgt := 62) dX7_readCond_44 (by decide) (fun h_43 => ?_) (fun h_43 => ?_)
            · skip
              have r_44 := (⟨(rx_37).1, (eq_rg (h_43) rc_0).2⟩ : Rg 0 0 x_37)
              refine g_lo (is := [0, 1, 2, 3, 4, 5]) (lo2 := [(0, .ref x), (1, .ref a0), (2, .ref a1), (3, .int v_6), (4, .int v_7), (5, .int v_8)]) rfl ?_
              exact j_62 I_38 J_39 hUI_38 hF_41 hG_42 v_6 (rv_6) v_7 (r_26) (n_25) v_8 (r_22) hm_9
            · skip
              have n_45 : ¬ x_37 = 0 := h_43
              have r_46 := ne_lo (lo := 1) n_45 rx_37 rc_0 rfl (by decide)
              refine g_aload_n C 0 dX7_readCond_47 rfl rfl ?_
              refine g_bipush C (v := 17) dX7_readCond_48 (by decide) ?_
              refine g_iconst C (v := 0) dX7_readCond_50 (by decide) ?_
              refine g_iconst C (v := 0) dX7_readCond_51 (by decide) ?_
              refine g_callVI C K (c_X7_addStep W9 hLx hkx 17 0 0 (rg_w rc_0 (by decide) (by decide)) hUI_38  (fun q => absurd q (by decide))) hLx hkx (by decide) rfl v_7_63 rfl ⟨rfl, rfl⟩ ⟨Nat.le_of_ble_eq_true rfl, Nat.le_of_ble_eq_true rfl⟩ (Nat.le_of_ble_eq_true rfl) ⟨Nat.le_of_ble_eq_true rfl, Nat.le_of_ble_eq_true rfl⟩ dX7_readCond_52 rfl (st := []) (fun x_47 I_48 J_49 h_50 => ?_)
              obtain ⟨hUI_48, hFI_48, hGJ_49, rx_47⟩ := h_50
              have hF_51 := fq_tr hF_41 hFI_48 (by decide)
              have hG_52 := fq_tr hG_42 hGJ_49 (by decide)
              refine g_if_eq C (tgt := 62) dX7_readCond_55 (by decide) (fun h_53 => ?_) (fun h_53 => ?_)
              · skip
                have r_54 := (⟨(rx_47).1, (eq_rg (h_53) rc_0).2⟩ : Rg 0 0 x_47)
                refine g_lo (is := [0, 1, 2, 3, 4, 5]) (lo2 := [(0, .ref x), (1, .ref a0), (2, .ref a1), (3, .int v_6), (4, .int v_7), (5, .int v_8)]) rfl ?_
                exact j_62 I_48 J_49 hUI_48 hF_51 hG_52 v_6 (rv_6) v_7 (r_26) (n_25) v_8 (r_22) hm_9
              · skip
                have n_55 : ¬ x_47 = 0 := h_53
                have r_56 := ne_lo (lo := 1) n_55 rx_47 rc_0 rfl (by decide)
                refine g_iconst C (v := 1) dX7_readCond_58 (by decide) ?_
                refine g_goto C (tgt := 63) dX7_readCond_59 (by decide) ?_
                refine g_istore C dX7_readCond_63 (by decide) (lo2 := [(4, .int 1), (0, .ref x), (1, .ref a0), (2, .ref a1), (3, .int v_6), (5, .int v_8)]) rfl ?_
                obtain ⟨x_57, hx_57, rx_57, tx_57⟩ := ex_add (y := 1) 1 20 r_22 rc_1 (by decide) (by decide) (by decide) (by decide)
                refine g_iinc C dX7_readCond_65 (k := 5) (v := x_57) rfl hx_57 (by decide) (lo2 := [(5, .int x_57), (4, .int 1), (0, .ref x), (1, .ref a0), (2, .ref a1), (3, .int v_6)]) rfl ?_
                refine g_goto C (tgt := 12) dX7_readCond_68 (by decide) ?_
                refine g_lo (is := [2, 3, 4, 5, 1, 0]) (lo2 := [(0, .ref x), (1, .ref a0), (2, .ref a1), (3, .int v_6), (4, .int 1), (5, .int x_57)]) rfl ?_
                exact ih_12 I_48 J_49 hUI_48 hF_51 hG_52 v_6 (rv_6) 1 (rg_w rc_1 (by decide) (by decide)) x_57 (rg_w rx_57 (by decide) (by decide)) (ms_1 hm_9 (ti_k tx_57 rc_1) (by decide))
  refine g_aload_n C 0 dX7_readCond_0 rfl rfl ?_
  refine g_aload_n C 1 dX7_readCond_1 rfl rfl ?_
  refine g_aload_n C 2 dX7_readCond_2 rfl rfl ?_
  refine g_iload_n C 3 dX7_readCond_3 rfl rfl ?_
  refine g_callVI C K (c_X7_readAll_4 W9 hLx hkx hLa0 hka0 hLa1 hka1 a2 (ra2) hU) hLx hkx (by decide) rfl v_7_54 rfl ⟨rfl, rfl⟩ ⟨Nat.le_of_ble_eq_true rfl, Nat.le_of_ble_eq_true rfl⟩ (Nat.le_of_ble_eq_true rfl) ⟨Nat.le_of_ble_eq_true rfl, Nat.le_of_ble_eq_true rfl⟩ dX7_readCond_4 rfl (st := []) (fun x_58 I_59 J_60 h_61 => ?_)
  obtain ⟨hUI_59, hFI_59, hGJ_60, rx_58⟩ := h_61
  have hF_62 := fq_tr hF hFI_59 (by decide)
  have hG_63 := fq_tr hG hGJ_60 (by decide)
  refine g_istore C dX7_readCond_7 (by decide) (lo2 := [(4, .int x_58), (0, .ref x), (1, .ref a0), (2, .ref a1), (3, .int a2)]) rfl ?_
  refine g_iconst C (v := 0) dX7_readCond_9 (by decide) ?_
  refine g_istore C dX7_readCond_10 (by decide) (lo2 := [(5, .int 0), (4, .int x_58), (0, .ref x), (1, .ref a0), (2, .ref a1), (3, .int a2)]) rfl ?_
  refine g_lo (is := [2, 3, 4, 5, 1, 0]) (lo2 := [(0, .ref x), (1, .ref a0), (2, .ref a1), (3, .int a2), (4, .int x_58), (5, .int 0)]) rfl ?_
  exact l_12 21 I_59 J_60 hUI_59 hF_62 hG_63 a2 (ra2) x_58 (rx_58) 0 (rg_w rc_0 (by decide) (by decide)) (ms_s (a := 0) (b := 20) (N := 21) (rg_w rc_0 (by decide) (by decide)) (by decide))
set_option maxRecDepth 100000 in
set_option maxHeartbeats 8000000 in
theorem c_X7_readOne_3 {l : Launch} {D : va_G} {cy : Nat → ClassId} {L : List Nat} {κ ln : Nat → Nat} {R : Nat → Nat → Option Nat} {I : Nat → Nat → Int32} {J : Nat → Nat → Int64} {ow : Nat → Nat × Nat} (W9 : ∀ a ∈ L, Shp L κ ln R ow a) {x : Nat} (hLx : x ∈ L) (hkx : κ x = 7) {a0 : Nat} (hLa0 : a0 ∈ L) (hka0 : κ a0 = 10) {a1 : Nat} (hLa1 : a1 ∈ L) (hka1 : κ a1 = 8) (a2 : Int32) (ra2 : Rg 3 3 a2) (hU : Iv L κ R ow I) : CtI l yX7_readOne cX7_readOne 5 (some .boolean) { frames := 19, cells := 0, slots := 0, locals := 465 } D cy L κ ln R I J [.ref x, .ref a0, .ref a1, .int a2] (fun r I2 J2 => Iv L κ R ow I2 ∧ Fq L κ ow [704, 705, 1007, 1008, 1009, 1011, 1012, 52000, 52100, 52200] I I2 ∧ Fq L κ ow [1010] J J2 ∧ Rg 0 1 r) := by
  refine CtI.of (by decide +kernel) (Nat.le_of_ble_eq_true rfl) ?_
  intro p e s m below meth c B K
  have C := B.1
  have hF : Fq L κ ow [704, 705, 1007, 1008, 1009, 1011, 1012, 52000, 52100, 52200] I I := fq_rf
  have hG : Fq L κ ow [1010] J J := fq_rf
  refine g_lo (is := [0, 1, 2, 3]) (lo2 := [(0, .ref x), (1, .ref a0), (2, .ref a1), (3, .int a2)]) rfl ?_
  have j_35 : ∀ (I_1 : Nat → Nat → Int32) (J_2 : Nat → Nat → Int64) (hU_3 : Iv L κ R ow I_1) (hF_4 : Fq L κ ow [704, 705, 1007, 1008, 1009, 1011, 1012, 52000, 52100, 52200] I I_1) (hG_5 : Fq L κ ow [1010] J J_2) (v_6 : Int32) (rv_6 : Rg 3 3 v_6) (v_7 : Int32) (v_8 : Int32) (rv_8 : Rg 20 2147483647 v_8) (q_9 : I_1 a0 8 = v_7) (q_10 : I_1 x 5 = v_8), WG p l e { frames := 19, cells := 0, slots := 0, locals := 465 } s m ([.ref x, .ref a0, .ref a1, .int a2] : List Value).toArray below meth c 5 0 0 (MQ below (Qi_ D cy L κ ln R (fun r I2 J2 => Iv L κ R ow I2 ∧ Fq L κ ow [704, 705, 1007, 1008, 1009, 1011, 1012, 52000, 52100, 52200] I I2 ∧ Fq L κ ow [1010] J J2 ∧ Rg 0 1 r)) ([.ref x, .ref a0, .ref a1, .int a2] : List Value).toArray s 0 0 (Al_ L)) D cy (Al_ L) s.heap L κ ln R I_1 J_2 35 [(0, .ref x), (1, .ref a0), (2, .ref a1), (3, .int v_6), (4, .int v_7)] [] := by
    intro I_1 J_2 hU_3 hF_4 hG_5 v_6 rv_6 v_7 v_8 rv_8 q_9 q_10
    refine g_aload_n C 1 dX7_readOne_35 rfl rfl ?_
    refine g_iconst C (v := 4) dX7_readOne_36 (by decide) ?_
    refine g_callVI C K (c_X10_fail W9 hLa0 hka0 4 (rg_w rc_4 (by decide) (by decide)) hU_3) hLa0 hka0 (by decide) rfl v_7_73 rfl ⟨rfl, rfl⟩ ⟨Nat.le_of_ble_eq_true rfl, Nat.le_of_ble_eq_true rfl⟩ (Nat.le_of_ble_eq_true rfl) ⟨Nat.le_of_ble_eq_true rfl, Nat.le_of_ble_eq_true rfl⟩ dX7_readOne_37 rfl (st := []) (fun x_11 I_12 J_13 h_14 => ?_)
    obtain ⟨hUI_12, hFI_12, hGJ_13, rx_11, fx_11⟩ := h_14
    have hF_15 := fq_tr hF_4 hFI_12 (by decide)
    have hG_16 := fq_tr hG_5 hGJ_13 (by decide)
    exact g_zret (ty := .boolean) (r := x_11) B K rfl (nar_z (rg_w rx_11 (by decide) (by decide))) ⟨hUI_12, hF_15, hG_16, rg_w rx_11 (by decide) (by decide)⟩ dX7_readOne_40
  refine g_aload_n C 1 dX7_readOne_0 rfl rfl ?_
  obtain ⟨x_17, hx_17, rx_17⟩ := ex_get (I := I) (a := a0) (j := 8) (lo := (-2147483648)) (hi := 2147483647) hU.1 hLa0 (ro_o hka0 (by decide)) rfl
  refine g_getI C K hLa0 hka0 f_7_57 (v := x_17) hx_17 dX7_readOne_1 ?_
  refine g_istore C dX7_readOne_4 (by decide) (lo2 := [(4, .int x_17), (0, .ref x), (1, .ref a0), (2, .ref a1), (3, .int a2)]) rfl ?_
  refine g_iload C 0 dX7_readOne_6 rfl ?_
  refine g_callSI C K (c_X7_beginsOne W9 x_17  hU) s_7_70 rfl ⟨rfl, rfl⟩ ⟨Nat.le_of_ble_eq_true rfl, Nat.le_of_ble_eq_true rfl⟩ (Nat.le_of_ble_eq_true rfl) ⟨Nat.le_of_ble_eq_true rfl, Nat.le_of_ble_eq_true rfl⟩ dX7_readOne_8 rfl (st := []) (fun x_18 I_19 J_20 h_21 => ?_)
  obtain ⟨rfl, rfl, rx_18⟩ := h_21
  refine g_if_ne C (tgt := 20) dX7_readOne_11 (by decide) (fun h_22 => ?_) (fun h_22 => ?_)
  · skip
    have n_23 : ¬ x_18 = 0 := h_22
    have r_24 := ne_lo (lo := 1) n_23 rx_18 rc_0 rfl (by decide)
    refine g_aload_n C 1 dX7_readOne_20 rfl rfl ?_
    obtain ⟨x_25, hx_25, rx_25⟩ := ex_get (I := I) (a := x) (j := 5) (lo := (-2147483648)) (hi := 2147483647) hU.1 hLx (ro_o hkx (by decide)) rfl
    refine g_getI C K hLx hkx f_7_28 (v := x_25) hx_25 dX7_readOne_21 ?_
    refine g_bipush C (v := 20) dX7_readOne_24 (by decide) ?_
    refine g_icmp_ge C (tgt := 35) dX7_readOne_26 (by decide) (fun h_26 => ?_) (fun h_26 => ?_)
    · skip
      have r_27 := le_r (h_26) rc_20 rx_25
      refine g_lo (is := [1, 2, 3, 4, 0]) (lo2 := [(0, .ref x), (1, .ref a0), (2, .ref a1), (3, .int a2), (4, .int x_17)]) rfl ?_
      exact j_35 I J hU hF hG a2 (ra2) x_17 x_25 (r_27) hx_17 hx_25
    · skip
      have r_28 := lt_l (hi := 19) (nle h_26) rx_25 rc_20 (by decide)
      refine g_iload_n C 4 dX7_readOne_29 rfl rfl ?_
      refine g_bipush C (v := 8) dX7_readOne_30 (by decide) ?_
      refine g_icmp_le C (tgt := 41) dX7_readOne_32 (by decide) (fun h_29 => ?_) (fun h_29 => ?_)
      · skip
        refine g_aload_n C 1 dX7_readOne_41 rfl rfl ?_
        refine g_dup C dX7_readOne_42 rfl ?_
        refine g_getI C K hLx hkx f_7_28 (v := x_25) hx_25 dX7_readOne_43 ?_
        refine g_iconst C (v := 1) dX7_readOne_46 (by decide) ?_
        obtain ⟨x_30, hx_30, rx_30, tx_30⟩ := ex_add (-2147483647) 20 r_28 rc_1 (by decide) (by decide) (by decide) (by decide)
        refine g_iadd C (v := x_30) dX7_readOne_47 hx_30 ?_
        refine h_putI C K hLx hkx f_7_28 p_7_5 dX7_readOne_48 (fun I_31 hI_31 => ?_)
        have hU_32 := iv_put W9 hU hI_31 (ro_o hkx (by decide)) (lo := (-2147483648)) (hi := 2147483647) (rfl) (rg_all _) rfl
        have hF_33 := fq_puto hF hI_31 hkx (by decide) (by decide)
        refine g_aload_n C 2 dX7_readOne_51 rfl rfl ?_
        refine g_callVV C K (c_X10_advance W9 hLa0 hka0   hU_32) hLa0 hka0 (by decide) rfl v_7_60 rfl ⟨rfl, rfl⟩ ⟨Nat.le_of_ble_eq_true rfl, Nat.le_of_ble_eq_true rfl⟩ (Nat.le_of_ble_eq_true rfl) ⟨Nat.le_of_ble_eq_true rfl, Nat.le_of_ble_eq_true rfl⟩ dX7_readOne_52 rfl (st := []) (fun I_35 J_36 h_37 => ?_)
        obtain ⟨hUI_35, hFI_35, hGJ_36, fx_34⟩ := h_37
        have hF_38 := fq_tr hF_33 hFI_35 (by decide)
        have hG_39 := fq_tr hG hGJ_36 (by decide)
        refine g_iload C 0 dX7_readOne_55 rfl ?_
        refine g_bipush C (v := 40) dX7_readOne_57 (by decide) ?_
        refine g_icmp_ne C (tgt := 89) dX7_readOne_59 (by decide) (fun h_40 => ?_) (fun h_40 => ?_)
        · skip
          have n_41 : ¬ x_17 = 40 := h_40
          refine g_iload C 0 dX7_readOne_89 rfl ?_
          refine g_bipush C (v := 19) dX7_readOne_91 (by decide) ?_
          refine g_icmp_ne C (tgt := 125) dX7_readOne_93 (by decide) (fun h_42 => ?_) (fun h_42 => ?_)
          · skip
            have n_43 : ¬ x_17 = 19 := h_42
            refine g_aload_n C 1 dX7_readOne_125 rfl rfl ?_
            refine g_aload_n C 2 dX7_readOne_126 rfl rfl ?_
            refine g_aload_n C 3 dX7_readOne_127 rfl rfl ?_
            refine g_iload C 0 dX7_readOne_128 rfl ?_
            refine g_callVI C K (c_X7_readPlainOne W9 hLx hkx hLa0 hka0 hLa1 hka1 x_17  hUI_35) hLx hkx (by decide) rfl v_7_76 rfl ⟨rfl, rfl⟩ ⟨Nat.le_of_ble_eq_true rfl, Nat.le_of_ble_eq_true rfl⟩ (Nat.le_of_ble_eq_true rfl) ⟨Nat.le_of_ble_eq_true rfl, Nat.le_of_ble_eq_true rfl⟩ dX7_readOne_130 rfl (st := []) (fun x_44 I_45 J_46 h_47 => ?_)
            obtain ⟨hUI_45, hFI_45, hGJ_46, rx_44⟩ := h_47
            have hF_48 := fq_tr hF_38 hFI_45 (by decide)
            have hG_49 := fq_tr hG_39 hGJ_46 (by decide)
            exact g_zret (ty := .boolean) (r := x_44) B K rfl (nar_z (rx_44)) ⟨hUI_45, hF_48, hG_49, rx_44⟩ dX7_readOne_133
          · skip
            have r_50 := (⟨(eq_rg (h_42) rc_19).1, (eq_rg (h_42) rc_19).2⟩ : Rg 19 19 x_17)
            refine g_aload_n C 1 dX7_readOne_96 rfl rfl ?_
            refine g_aload_n C 2 dX7_readOne_97 rfl rfl ?_
            refine g_aload_n C 3 dX7_readOne_98 rfl rfl ?_
            refine g_iload_n C 4 dX7_readOne_99 rfl rfl ?_
            refine g_iconst C (v := 1) dX7_readOne_100 (by decide) ?_
            obtain ⟨x_51, hx_51, rx_51, tx_51⟩ := ex_add 4 4 ra2 rc_1 (by decide) (by decide) (by decide) (by decide)
            refine g_iadd C (v := x_51) dX7_readOne_101 hx_51 ?_
            refine g_callVI C K (c_X7_readOne_4 W9 hLx hkx hLa0 hka0 hLa1 hka1 x_51 (rx_51) hUI_35) hLx hkx (by decide) rfl v_7_67 rfl ⟨rfl, rfl⟩ ⟨Nat.le_of_ble_eq_true rfl, Nat.le_of_ble_eq_true rfl⟩ (Nat.le_of_ble_eq_true rfl) ⟨Nat.le_of_ble_eq_true rfl, Nat.le_of_ble_eq_true rfl⟩ dX7_readOne_102 rfl (st := []) (fun x_52 I_53 J_54 h_55 => ?_)
            obtain ⟨hUI_53, hFI_53, hGJ_54, rx_52⟩ := h_55
            have hF_56 := fq_tr hF_38 hFI_53 (by decide)
            have hG_57 := fq_tr hG_39 hGJ_54 (by decide)
            refine g_if_eq C (tgt := 123) dX7_readOne_105 (by decide) (fun h_58 => ?_) (fun h_58 => ?_)
            · skip
              have r_59 := (⟨(rx_52).1, (eq_rg (h_58) rc_0).2⟩ : Rg 0 0 x_52)
              refine g_iconst C (v := 0) dX7_readOne_123 (by decide) ?_
              exact g_zret (ty := .boolean) (r := 0) B K rfl (rfl) ⟨hUI_53, hF_56, hG_57, rg_w rc_0 (by decide) (by decide)⟩ dX7_readOne_124
            · skip
              have n_60 : ¬ x_52 = 0 := h_58
              have r_61 := ne_lo (lo := 1) n_60 rx_52 rc_0 rfl (by decide)
              refine g_aload_n C 1 dX7_readOne_108 rfl rfl ?_
              refine g_bipush C (v := 19) dX7_readOne_109 (by decide) ?_
              refine g_iconst C (v := 0) dX7_readOne_111 (by decide) ?_
              refine g_iconst C (v := 0) dX7_readOne_112 (by decide) ?_
              refine g_callVI C K (c_X7_addStep W9 hLx hkx 19 0 0 (rg_w rc_0 (by decide) (by decide)) hUI_53  (fun q => absurd q (by decide))) hLx hkx (by decide) rfl v_7_63 rfl ⟨rfl, rfl⟩ ⟨Nat.le_of_ble_eq_true rfl, Nat.le_of_ble_eq_true rfl⟩ (Nat.le_of_ble_eq_true rfl) ⟨Nat.le_of_ble_eq_true rfl, Nat.le_of_ble_eq_true rfl⟩ dX7_readOne_113 rfl (st := []) (fun x_62 I_63 J_64 h_65 => ?_)
              obtain ⟨hUI_63, hFI_63, hGJ_64, rx_62⟩ := h_65
              have hF_66 := fq_tr hF_56 hFI_63 (by decide)
              have hG_67 := fq_tr hG_57 hGJ_64 (by decide)
              refine g_if_eq C (tgt := 123) dX7_readOne_116 (by decide) (fun h_68 => ?_) (fun h_68 => ?_)
              · skip
                have r_69 := (⟨(rx_62).1, (eq_rg (h_68) rc_0).2⟩ : Rg 0 0 x_62)
                refine g_iconst C (v := 0) dX7_readOne_123 (by decide) ?_
                exact g_zret (ty := .boolean) (r := 0) B K rfl (rfl) ⟨hUI_63, hF_66, hG_67, rg_w rc_0 (by decide) (by decide)⟩ dX7_readOne_124
              · skip
                have n_70 : ¬ x_62 = 0 := h_68
                have r_71 := ne_lo (lo := 1) n_70 rx_62 rc_0 rfl (by decide)
                refine g_iconst C (v := 1) dX7_readOne_119 (by decide) ?_
                refine g_goto C (tgt := 124) dX7_readOne_120 (by decide) ?_
                exact g_zret (ty := .boolean) (r := 1) B K rfl (rfl) ⟨hUI_63, hF_66, hG_67, rg_w rc_1 (by decide) (by decide)⟩ dX7_readOne_124
        · skip
          have r_72 := (⟨(eq_rg (h_40) rc_40).1, (eq_rg (h_40) rc_40).2⟩ : Rg 40 40 x_17)
          refine g_aload_n C 1 dX7_readOne_62 rfl rfl ?_
          refine g_aload_n C 2 dX7_readOne_63 rfl rfl ?_
          refine g_aload_n C 3 dX7_readOne_64 rfl rfl ?_
          refine g_iload_n C 4 dX7_readOne_65 rfl rfl ?_
          refine g_iconst C (v := 1) dX7_readOne_66 (by decide) ?_
          obtain ⟨x_73, hx_73, rx_73, tx_73⟩ := ex_add 4 4 ra2 rc_1 (by decide) (by decide) (by decide) (by decide)
          refine g_iadd C (v := x_73) dX7_readOne_67 hx_73 ?_
          refine g_callVI C K (c_X7_readCond_4 W9 hLx hkx hLa0 hka0 hLa1 hka1 x_73 (rx_73) hUI_35) hLx hkx (by decide) rfl v_7_46 rfl ⟨rfl, rfl⟩ ⟨Nat.le_of_ble_eq_true rfl, Nat.le_of_ble_eq_true rfl⟩ (Nat.le_of_ble_eq_true rfl) ⟨Nat.le_of_ble_eq_true rfl, Nat.le_of_ble_eq_true rfl⟩ dX7_readOne_68 rfl (st := []) (fun x_74 I_75 J_76 h_77 => ?_)
          obtain ⟨hUI_75, hFI_75, hGJ_76, rx_74⟩ := h_77
          have hF_78 := fq_tr hF_38 hFI_75 (by decide)
          have hG_79 := fq_tr hG_39 hGJ_76 (by decide)
          refine g_if_eq C (tgt := 87) dX7_readOne_71 (by decide) (fun h_80 => ?_) (fun h_80 => ?_)
          · skip
            have r_81 := (⟨(rx_74).1, (eq_rg (h_80) rc_0).2⟩ : Rg 0 0 x_74)
            refine g_iconst C (v := 0) dX7_readOne_87 (by decide) ?_
            exact g_zret (ty := .boolean) (r := 0) B K rfl (rfl) ⟨hUI_75, hF_78, hG_79, rg_w rc_0 (by decide) (by decide)⟩ dX7_readOne_88
          · skip
            have n_82 : ¬ x_74 = 0 := h_80
            have r_83 := ne_lo (lo := 1) n_82 rx_74 rc_0 rfl (by decide)
            refine g_aload_n C 2 dX7_readOne_74 rfl rfl ?_
            refine g_bipush C (v := 41) dX7_readOne_75 (by decide) ?_
            refine g_callVI C K (c_X10_take W9 hLa0 hka0 41 (rg_w rc_41 (by decide) (by decide)) hUI_75) hLa0 hka0 (by decide) rfl v_7_50 rfl ⟨rfl, rfl⟩ ⟨Nat.le_of_ble_eq_true rfl, Nat.le_of_ble_eq_true rfl⟩ (Nat.le_of_ble_eq_true rfl) ⟨Nat.le_of_ble_eq_true rfl, Nat.le_of_ble_eq_true rfl⟩ dX7_readOne_77 rfl (st := []) (fun x_84 I_85 J_86 h_87 => ?_)
            obtain ⟨hUI_85, hFI_85, hGJ_86, rx_84, fx_84⟩ := h_87
            have hF_88 := fq_tr hF_78 hFI_85 (by decide)
            have hG_89 := fq_tr hG_79 hGJ_86 (by decide)
            refine g_if_eq C (tgt := 87) dX7_readOne_80 (by decide) (fun h_90 => ?_) (fun h_90 => ?_)
            · skip
              have r_91 := (⟨(rx_84).1, (eq_rg (h_90) rc_0).2⟩ : Rg 0 0 x_84)
              refine g_iconst C (v := 0) dX7_readOne_87 (by decide) ?_
              exact g_zret (ty := .boolean) (r := 0) B K rfl (rfl) ⟨hUI_85, hF_88, hG_89, rg_w rc_0 (by decide) (by decide)⟩ dX7_readOne_88
            · skip
              have n_92 : ¬ x_84 = 0 := h_90
              have r_93 := ne_lo (lo := 1) n_92 rx_84 rc_0 rfl (by decide)
              refine g_iconst C (v := 1) dX7_readOne_83 (by decide) ?_
              refine g_goto C (tgt := 88) dX7_readOne_84 (by decide) ?_
              exact g_zret (ty := .boolean) (r := 1) B K rfl (rfl) ⟨hUI_85, hF_88, hG_89, rg_w rc_1 (by decide) (by decide)⟩ dX7_readOne_88
      · skip
        have r_94 := lt_r (lo := 9) (nle h_29) rc_8 ra2 (by decide)
        exact rg_no r_94 (by decide)
  · skip
    have r_95 := (⟨(rx_18).1, (eq_rg (h_22) rc_0).2⟩ : Rg 0 0 x_18)
    refine g_aload_n C 2 dX7_readOne_14 rfl rfl ?_
    refine g_iconst C (v := 1) dX7_readOne_15 (by decide) ?_
    refine g_callVI C K (c_X10_fail W9 hLa0 hka0 1 (rg_w rc_1 (by decide) (by decide)) hU) hLa0 hka0 (by decide) rfl v_7_73 rfl ⟨rfl, rfl⟩ ⟨Nat.le_of_ble_eq_true rfl, Nat.le_of_ble_eq_true rfl⟩ (Nat.le_of_ble_eq_true rfl) ⟨Nat.le_of_ble_eq_true rfl, Nat.le_of_ble_eq_true rfl⟩ dX7_readOne_16 rfl (st := []) (fun x_96 I_97 J_98 h_99 => ?_)
    obtain ⟨hUI_97, hFI_97, hGJ_98, rx_96, fx_96⟩ := h_99
    have hF_100 := fq_tr hF hFI_97 (by decide)
    have hG_101 := fq_tr hG hGJ_98 (by decide)
    exact g_zret (ty := .boolean) (r := x_96) B K rfl (nar_z (rg_w rx_96 (by decide) (by decide))) ⟨hUI_97, hF_100, hG_101, rg_w rx_96 (by decide) (by decide)⟩ dX7_readOne_19
set_option maxRecDepth 100000 in
set_option maxHeartbeats 8000000 in
theorem c_X7_readAll_3 {l : Launch} {D : va_G} {cy : Nat → ClassId} {L : List Nat} {κ ln : Nat → Nat} {R : Nat → Nat → Option Nat} {I : Nat → Nat → Int32} {J : Nat → Nat → Int64} {ow : Nat → Nat × Nat} (W9 : ∀ a ∈ L, Shp L κ ln R ow a) {x : Nat} (hLx : x ∈ L) (hkx : κ x = 7) {a0 : Nat} (hLa0 : a0 ∈ L) (hka0 : κ a0 = 10) {a1 : Nat} (hLa1 : a1 ∈ L) (hka1 : κ a1 = 8) (a2 : Int32) (ra2 : Rg 3 3 a2) (hU : Iv L κ R ow I) : CtI l yX7_readAll cX7_readAll 6 (some .boolean) { frames := 20, cells := 0, slots := 0, locals := 489 } D cy L κ ln R I J [.ref x, .ref a0, .ref a1, .int a2] (fun r I2 J2 => Iv L κ R ow I2 ∧ Fq L κ ow [704, 705, 1007, 1008, 1009, 1011, 1012, 52000, 52100, 52200] I I2 ∧ Fq L κ ow [1010] J J2 ∧ Rg 0 1 r) := by
  refine CtI.of (by decide +kernel) (Nat.le_of_ble_eq_true rfl) ?_
  intro p e s m below meth c B K
  have C := B.1
  have hF : Fq L κ ow [704, 705, 1007, 1008, 1009, 1011, 1012, 52000, 52100, 52200] I I := fq_rf
  have hG : Fq L κ ow [1010] J J := fq_rf
  refine g_lo (is := [0, 1, 2, 3]) (lo2 := [(0, .ref x), (1, .ref a0), (2, .ref a1), (3, .int a2)]) rfl ?_
  have l_12 : ∀ (n_12 : Nat) (I_1 : Nat → Nat → Int32) (J_2 : Nat → Nat → Int64) (hU_3 : Iv L κ R ow I_1) (hF_4 : Fq L κ ow [704, 705, 1007, 1008, 1009, 1011, 1012, 52000, 52100, 52200] I I_1) (hG_5 : Fq L κ ow [1010] J J_2) (v_6 : Int32) (rv_6 : Rg 3 3 v_6) (v_7 : Int32) (rv_7 : Rg 0 1 v_7) (v_8 : Int32) (rv_8 : Rg 0 20 v_8) (hm_9 : 20 < (v_8 : Int32).toInt + (n_12 : Int)), WG p l e { frames := 20, cells := 0, slots := 0, locals := 489 } s m ([.ref x, .ref a0, .ref a1, .int a2] : List Value).toArray below meth c 6 0 0 (MQ below (Qi_ D cy L κ ln R (fun r I2 J2 => Iv L κ R ow I2 ∧ Fq L κ ow [704, 705, 1007, 1008, 1009, 1011, 1012, 52000, 52100, 52200] I I2 ∧ Fq L κ ow [1010] J J2 ∧ Rg 0 1 r)) ([.ref x, .ref a0, .ref a1, .int a2] : List Value).toArray s 0 0 (Al_ L)) D cy (Al_ L) s.heap L κ ln R I_1 J_2 12 [(0, .ref x), (1, .ref a0), (2, .ref a1), (3, .int v_6), (4, .int v_7), (5, .int v_8)] [] := by
    intro n_12
    induction n_12 with
    | zero =>
      intro I_1 J_2 hU_3 hF_4 hG_5 v_6 rv_6 v_7 rv_7 v_8 rv_8 hm_9
      exact ms_0 rv_8 hm_9
    | succ n_12 ih_12 =>
      intro I_1 J_2 hU_3 hF_4 hG_5 v_6 rv_6 v_7 rv_7 v_8 rv_8 hm_9
      have j_62 : ∀ (I_10 : Nat → Nat → Int32) (J_11 : Nat → Nat → Int64) (hU_12 : Iv L κ R ow I_10) (hF_13 : Fq L κ ow [704, 705, 1007, 1008, 1009, 1011, 1012, 52000, 52100, 52200] I I_10) (hG_14 : Fq L κ ow [1010] J J_11) (v_15 : Int32) (rv_15 : Rg 3 3 v_15) (v_16 : Int32) (rv_16 : Rg 1 1 v_16) (nv_16_0 : ¬ v_16 = 0) (v_17 : Int32) (rv_17 : Rg 0 19 v_17) (hm_18 : 20 < (v_17 : Int32).toInt + ((n_12 + 1 : Nat) : Int)), WG p l e { frames := 20, cells := 0, slots := 0, locals := 489 } s m ([.ref x, .ref a0, .ref a1, .int a2] : List Value).toArray below meth c 6 0 0 (MQ below (Qi_ D cy L κ ln R (fun r I2 J2 => Iv L κ R ow I2 ∧ Fq L κ ow [704, 705, 1007, 1008, 1009, 1011, 1012, 52000, 52100, 52200] I I2 ∧ Fq L κ ow [1010] J J2 ∧ Rg 0 1 r)) ([.ref x, .ref a0, .ref a1, .int a2] : List Value).toArray s 0 0 (Al_ L)) D cy (Al_ L) s.heap L κ ln R I_10 J_11 62 [(0, .ref x), (1, .ref a0), (2, .ref a1), (3, .int v_15), (4, .int v_16), (5, .int v_17)] [] := by
        intro I_10 J_11 hU_12 hF_13 hG_14 v_15 rv_15 v_16 rv_16 nv_16_0 v_17 rv_17 hm_18
        refine g_iconst C (v := 0) dX7_readAll_62 (by decide) ?_
        refine g_istore C dX7_readAll_63 (by decide) (lo2 := [(4, .int 0), (0, .ref x), (1, .ref a0), (2, .ref a1), (3, .int v_15), (5, .int v_17)]) rfl ?_
        obtain ⟨x_19, hx_19, rx_19, tx_19⟩ := ex_add (y := 1) 1 20 rv_17 rc_1 (by decide) (by decide) (by decide) (by decide)
        refine g_iinc C dX7_readAll_65 (k := 5) (v := x_19) rfl hx_19 (by decide) (lo2 := [(5, .int x_19), (4, .int 0), (0, .ref x), (1, .ref a0), (2, .ref a1), (3, .int v_15)]) rfl ?_
        refine g_goto C (tgt := 12) dX7_readAll_68 (by decide) ?_
        refine g_lo (is := [2, 3, 4, 5, 1, 0]) (lo2 := [(0, .ref x), (1, .ref a0), (2, .ref a1), (3, .int v_15), (4, .int 0), (5, .int x_19)]) rfl ?_
        exact ih_12 I_10 J_11 hU_12 hF_13 hG_14 v_15 (rv_15) 0 (rg_w rc_0 (by decide) (by decide)) x_19 (rg_w rx_19 (by decide) (by decide)) (ms_1 hm_18 (ti_k tx_19 rc_1) (by decide))
      refine g_iload C 5 dX7_readAll_12 rfl ?_
      refine g_bipush C (v := 20) dX7_readAll_14 (by decide) ?_
      refine g_icmp_ge C (tgt := 71) dX7_readAll_16 (by decide) (fun h_20 => ?_) (fun h_20 => ?_)
      · skip
        have r_21 := le_r (h_20) rc_20 rv_8
        refine g_iload C 4 dX7_readAll_71 rfl ?_
        exact g_zret (ty := .boolean) (r := v_7) B K rfl (nar_z (rv_7)) ⟨hU_3, hF_4, hG_5, rv_7⟩ dX7_readAll_73
      · skip
        have r_22 := lt_l (hi := 19) (nle h_20) rv_8 rc_20 (by decide)
        refine g_iload C 4 dX7_readAll_19 rfl ?_
        refine g_if_eq C (tgt := 71) dX7_readAll_21 (by decide) (fun h_23 => ?_) (fun h_23 => ?_)
        · skip
          have r_24 := (⟨(rv_7).1, (eq_rg (h_23) rc_0).2⟩ : Rg 0 0 v_7)
          refine g_iload C 4 dX7_readAll_71 rfl ?_
          exact g_zret (ty := .boolean) (r := v_7) B K rfl (nar_z (rg_w r_24 (by decide) (by decide))) ⟨hU_3, hF_4, hG_5, rg_w r_24 (by decide) (by decide)⟩ dX7_readAll_73
        · skip
          have n_25 : ¬ v_7 = 0 := h_23
          have r_26 := ne_lo (lo := 1) n_25 rv_7 rc_0 rfl (by decide)
          refine g_aload_n C 1 dX7_readAll_24 rfl rfl ?_
          obtain ⟨x_27, hx_27, rx_27⟩ := ex_get (I := I_1) (a := a0) (j := 8) (lo := (-2147483648)) (hi := 2147483647) hU_3.1 hLa0 (ro_o hka0 (by decide)) rfl
          refine g_getI C K hLa0 hka0 f_7_57 (v := x_27) hx_27 dX7_readAll_25 ?_
          refine g_bipush C (v := 18) dX7_readAll_28 (by decide) ?_
          refine g_icmp_ne C (tgt := 71) dX7_readAll_30 (by decide) (fun h_28 => ?_) (fun h_28 => ?_)
          · skip
            have n_29 : ¬ x_27 = 18 := h_28
            refine g_iload C 4 dX7_readAll_71 rfl ?_
            exact g_zret (ty := .boolean) (r := v_7) B K rfl (nar_z (rg_w r_26 (by decide) (by decide))) ⟨hU_3, hF_4, hG_5, rg_w r_26 (by decide) (by decide)⟩ dX7_readAll_73
          · skip
            have r_30 := (⟨(eq_rg (h_28) rc_18).1, (eq_rg (h_28) rc_18).2⟩ : Rg 18 18 x_27)
            refine g_aload_n C 1 dX7_readAll_33 rfl rfl ?_
            refine g_callVV C K (c_X10_advance W9 hLa0 hka0   hU_3) hLa0 hka0 (by decide) rfl v_7_60 rfl ⟨rfl, rfl⟩ ⟨Nat.le_of_ble_eq_true rfl, Nat.le_of_ble_eq_true rfl⟩ (Nat.le_of_ble_eq_true rfl) ⟨Nat.le_of_ble_eq_true rfl, Nat.le_of_ble_eq_true rfl⟩ dX7_readAll_34 rfl (st := []) (fun I_32 J_33 h_34 => ?_)
            obtain ⟨hUI_32, hFI_32, hGJ_33, fx_31⟩ := h_34
            have hF_35 := fq_tr hF_4 hFI_32 (by decide)
            have hG_36 := fq_tr hG_5 hGJ_33 (by decide)
            refine g_aload_n C 0 dX7_readAll_37 rfl rfl ?_
            refine g_aload_n C 1 dX7_readAll_38 rfl rfl ?_
            refine g_aload_n C 2 dX7_readAll_39 rfl rfl ?_
            refine g_iload_n C 3 dX7_readAll_40 rfl rfl ?_
            refine g_callVI C K (c_X7_readOne_3 W9 hLx hkx hLa0 hka0 hLa1 hka1 v_6 (rv_6) hUI_32) hLx hkx (by decide) rfl v_7_67 rfl ⟨rfl, rfl⟩ ⟨Nat.le_of_ble_eq_true rfl, Nat.le_of_ble_eq_true rfl⟩ (Nat.le_of_ble_eq_true rfl) ⟨Nat.le_of_ble_eq_true rfl, Nat.le_of_ble_eq_true rfl⟩ dX7_readAll_41 rfl (st := []) (fun x_37 I_38 J_39 h_40 => ?_)
            obtain ⟨hUI_38, hFI_38, hGJ_39, rx_37⟩ := h_40
            have hF_41 := fq_tr hF_35 hFI_38 (by decide)
            have hG_42 := fq_tr hG_36 hGJ_39 (by decide)
            refine g_if_eq C (tgt := 62) dX7_readAll_44 (by decide) (fun h_43 => ?_) (fun h_43 => ?_)
            · skip
              have r_44 := (⟨(rx_37).1, (eq_rg (h_43) rc_0).2⟩ : Rg 0 0 x_37)
              refine g_lo (is := [0, 1, 2, 3, 4, 5]) (lo2 := [(0, .ref x), (1, .ref a0), (2, .ref a1), (3, .int v_6), (4, .int v_7), (5, .int v_8)]) rfl ?_
              exact j_62 I_38 J_39 hUI_38 hF_41 hG_42 v_6 (rv_6) v_7 (r_26) (n_25) v_8 (r_22) hm_9
            · skip
              have n_45 : ¬ x_37 = 0 := h_43
              have r_46 := ne_lo (lo := 1) n_45 rx_37 rc_0 rfl (by decide)
              refine g_aload_n C 0 dX7_readAll_47 rfl rfl ?_
              refine g_bipush C (v := 18) dX7_readAll_48 (by decide) ?_
              refine g_iconst C (v := 0) dX7_readAll_50 (by decide) ?_
              refine g_iconst C (v := 0) dX7_readAll_51 (by decide) ?_
              refine g_callVI C K (c_X7_addStep W9 hLx hkx 18 0 0 (rg_w rc_0 (by decide) (by decide)) hUI_38  (fun q => absurd q (by decide))) hLx hkx (by decide) rfl v_7_63 rfl ⟨rfl, rfl⟩ ⟨Nat.le_of_ble_eq_true rfl, Nat.le_of_ble_eq_true rfl⟩ (Nat.le_of_ble_eq_true rfl) ⟨Nat.le_of_ble_eq_true rfl, Nat.le_of_ble_eq_true rfl⟩ dX7_readAll_52 rfl (st := []) (fun x_47 I_48 J_49 h_50 => ?_)
              obtain ⟨hUI_48, hFI_48, hGJ_49, rx_47⟩ := h_50
              have hF_51 := fq_tr hF_41 hFI_48 (by decide)
              have hG_52 := fq_tr hG_42 hGJ_49 (by decide)
              refine g_if_eq C (tgt := 62) dX7_readAll_55 (by decide) (fun h_53 => ?_) (fun h_53 => ?_)
              · skip
                have r_54 := (⟨(rx_47).1, (eq_rg (h_53) rc_0).2⟩ : Rg 0 0 x_47)
                refine g_lo (is := [0, 1, 2, 3, 4, 5]) (lo2 := [(0, .ref x), (1, .ref a0), (2, .ref a1), (3, .int v_6), (4, .int v_7), (5, .int v_8)]) rfl ?_
                exact j_62 I_48 J_49 hUI_48 hF_51 hG_52 v_6 (rv_6) v_7 (r_26) (n_25) v_8 (r_22) hm_9
              · skip
                have n_55 : ¬ x_47 = 0 := h_53
                have r_56 := ne_lo (lo := 1) n_55 rx_47 rc_0 rfl (by decide)
                refine g_iconst C (v := 1) dX7_readAll_58 (by decide) ?_
                refine g_goto C (tgt := 63) dX7_readAll_59 (by decide) ?_
                refine g_istore C dX7_readAll_63 (by decide) (lo2 := [(4, .int 1), (0, .ref x), (1, .ref a0), (2, .ref a1), (3, .int v_6), (5, .int v_8)]) rfl ?_
                obtain ⟨x_57, hx_57, rx_57, tx_57⟩ := ex_add (y := 1) 1 20 r_22 rc_1 (by decide) (by decide) (by decide) (by decide)
                refine g_iinc C dX7_readAll_65 (k := 5) (v := x_57) rfl hx_57 (by decide) (lo2 := [(5, .int x_57), (4, .int 1), (0, .ref x), (1, .ref a0), (2, .ref a1), (3, .int v_6)]) rfl ?_
                refine g_goto C (tgt := 12) dX7_readAll_68 (by decide) ?_
                refine g_lo (is := [2, 3, 4, 5, 1, 0]) (lo2 := [(0, .ref x), (1, .ref a0), (2, .ref a1), (3, .int v_6), (4, .int 1), (5, .int x_57)]) rfl ?_
                exact ih_12 I_48 J_49 hUI_48 hF_51 hG_52 v_6 (rv_6) 1 (rg_w rc_1 (by decide) (by decide)) x_57 (rg_w rx_57 (by decide) (by decide)) (ms_1 hm_9 (ti_k tx_57 rc_1) (by decide))
  refine g_aload_n C 0 dX7_readAll_0 rfl rfl ?_
  refine g_aload_n C 1 dX7_readAll_1 rfl rfl ?_
  refine g_aload_n C 2 dX7_readAll_2 rfl rfl ?_
  refine g_iload_n C 3 dX7_readAll_3 rfl rfl ?_
  refine g_callVI C K (c_X7_readOne_3 W9 hLx hkx hLa0 hka0 hLa1 hka1 a2 (ra2) hU) hLx hkx (by decide) rfl v_7_67 rfl ⟨rfl, rfl⟩ ⟨Nat.le_of_ble_eq_true rfl, Nat.le_of_ble_eq_true rfl⟩ (Nat.le_of_ble_eq_true rfl) ⟨Nat.le_of_ble_eq_true rfl, Nat.le_of_ble_eq_true rfl⟩ dX7_readAll_4 rfl (st := []) (fun x_58 I_59 J_60 h_61 => ?_)
  obtain ⟨hUI_59, hFI_59, hGJ_60, rx_58⟩ := h_61
  have hF_62 := fq_tr hF hFI_59 (by decide)
  have hG_63 := fq_tr hG hGJ_60 (by decide)
  refine g_istore C dX7_readAll_7 (by decide) (lo2 := [(4, .int x_58), (0, .ref x), (1, .ref a0), (2, .ref a1), (3, .int a2)]) rfl ?_
  refine g_iconst C (v := 0) dX7_readAll_9 (by decide) ?_
  refine g_istore C dX7_readAll_10 (by decide) (lo2 := [(5, .int 0), (4, .int x_58), (0, .ref x), (1, .ref a0), (2, .ref a1), (3, .int a2)]) rfl ?_
  refine g_lo (is := [2, 3, 4, 5, 1, 0]) (lo2 := [(0, .ref x), (1, .ref a0), (2, .ref a1), (3, .int a2), (4, .int x_58), (5, .int 0)]) rfl ?_
  exact l_12 21 I_59 J_60 hUI_59 hF_62 hG_63 a2 (ra2) x_58 (rx_58) 0 (rg_w rc_0 (by decide) (by decide)) (ms_s (a := 0) (b := 20) (N := 21) (rg_w rc_0 (by decide) (by decide)) (by decide))
