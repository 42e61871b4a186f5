theorem dX7_readOne_74 : decode cX7_readOne 74 = .ok (.aload_n 1, 1) := by decide +kernel
theorem dX7_readOne_75 : decode cX7_readOne 75 = .ok (.bipush 41, 2) := by decide +kernel
theorem dX7_readOne_77 : decode cX7_readOne 77 = .ok (.invokevirtual 50, 3) := by decide +kernel
theorem dX7_readOne_80 : decode cX7_readOne 80 = .ok (.ifCond .eq 7, 3) := by decide +kernel
theorem dX7_readOne_83 : decode cX7_readOne 83 = .ok (.iconst 1, 1) := by decide +kernel
theorem dX7_readOne_84 : decode cX7_readOne 84 = .ok (.goto 4, 3) := by decide +kernel
theorem dX7_readOne_108 : decode cX7_readOne 108 = .ok (.aload_n 0, 1) := by decide +kernel
theorem dX7_readOne_109 : decode cX7_readOne 109 = .ok (.bipush 19, 2) := by decide +kernel
theorem dX7_readOne_111 : decode cX7_readOne 111 = .ok (.iconst 0, 1) := by decide +kernel
theorem dX7_readOne_112 : decode cX7_readOne 112 = .ok (.iconst 0, 1) := by decide +kernel
theorem dX7_readOne_113 : decode cX7_readOne 113 = .ok (.invokevirtual 63, 3) := by decide +kernel
theorem dX7_readOne_116 : decode cX7_readOne 116 = .ok (.ifCond .eq 7, 3) := by decide +kernel
theorem dX7_readOne_119 : decode cX7_readOne 119 = .ok (.iconst 1, 1) := by decide +kernel
theorem dX7_readOne_120 : decode cX7_readOne 120 = .ok (.goto 4, 3) := by decide +kernel
set_option maxRecDepth 100000 in
set_option maxHeartbeats 8000000 in
theorem c_X7_readOne_7 {l : Launch} {D : va_G} {cy : Nat → ClassId} {L : List Nat} {κ ln : Nat → Nat} {R : Nat → Nat → Option Nat} {I : Nat → Nat → Int32} {J : Nat → Nat → Int64} {ow : Nat → Nat × Nat} (W9 : ∀ a ∈ L, Shp L κ ln R ow a) {x : Nat} (hLx : x ∈ L) (hkx : κ x = 7) {a0 : Nat} (hLa0 : a0 ∈ L) (hka0 : κ a0 = 10) {a1 : Nat} (hLa1 : a1 ∈ L) (hka1 : κ a1 = 8) (a2 : Int32) (ra2 : Rg 7 7 a2) (hU : Iv L κ R ow I) : CtI l yX7_readOne cX7_readOne 5 (some .boolean) { frames := 7, cells := 0, slots := 0, locals := 169 } D cy L κ ln R I J [.ref x, .ref a0, .ref a1, .int a2] (fun r I2 J2 => Iv L κ R ow I2 ∧ Fq L κ ow [704, 705, 1007, 1008, 1009, 1011, 1012, 52000, 52100, 52200] I I2 ∧ Fq L κ ow [1010] J J2 ∧ Rg 0 1 r ∧ ((r, TPf R I2 J2 a0, SPf R I2 J2 x) = fOne 2 (TBf R I J a1) (TPf R I J a0) (SPf R I J x))) := by
  refine CtI.of (by decide +kernel) (Nat.le_of_ble_eq_true rfl) ?_
  intro p e s m below meth c B K
  have C := B.1
  have hF : Fq L κ ow [704, 705, 1007, 1008, 1009, 1011, 1012, 52000, 52100, 52200] I I := fq_rf
  have hG : Fq L κ ow [1010] J J := fq_rf
  obtain ⟨b_1, hb_1, hb_1L, hb_1k, hb_1n, hb_1o⟩ := shp_a (W9 a1 hLa1) hka1 0 15 7 rfl (by decide)
  obtain ⟨b_2, hb_2, hb_2L, hb_2k, hb_2n, hb_2o⟩ := shp_a (W9 a1 hLa1) hka1 2 14 7 rfl (by decide)
  obtain ⟨b_3, hb_3, hb_3L, hb_3k, hb_3n, hb_3o⟩ := shp_a (W9 a1 hLa1) hka1 3 15 6 rfl (by decide)
  have ebqa1 : ∀ I J, TBf R I J a1 = TBq I J a1 b_1 b_2 b_3 := fun I J => by simp only [TBf, rr_, Option.getD_some, hb_1, hb_2, hb_3]
  have wbqa1 : bqw_ L κ ow a1 b_1 b_2 b_3 := ⟨⟨hLa1, hb_1L, hb_2L, hb_3L⟩, ⟨(ro_o hka1 (by decide)), (ro_a hb_1k (by decide) hb_1o hka1 rfl), (ro_a hb_2k (by decide) hb_2o hka1 rfl), (ro_a hb_3k (by decide) hb_3o hka1 rfl)⟩⟩
  obtain ⟨s_4, hs_4⟩ : ∃ z, TBq I J a1 b_1 b_2 b_3 = z := ⟨_, rfl⟩
  obtain ⟨b_5, hb_5, hb_5L, hb_5k, hb_5n, hb_5o⟩ := shp_a (W9 a0 hLa0) hka0 0 13 940 rfl (by decide)
  obtain ⟨b_6, hb_6, hb_6L, hb_6k, hb_6n, hb_6o⟩ := shp_a (W9 a0 hLa0) hka0 1 15 28 rfl (by decide)
  obtain ⟨b_7, hb_7, hb_7L, hb_7k, hb_7n, hb_7o⟩ := shp_a (W9 a0 hLa0) hka0 2 14 901 rfl (by decide)
  obtain ⟨b_8, hb_8, hb_8L, hb_8k, hb_8n, hb_8o⟩ := shp_a (W9 a0 hLa0) hka0 3 14 901 rfl (by decide)
  obtain ⟨b_9, hb_9, hb_9L, hb_9k, hb_9n, hb_9o⟩ := shp_a (W9 a0 hLa0) hka0 4 15 901 rfl (by decide)
  have etqa0 : ∀ I J, TPf R I J a0 = TPq I J a0 b_5 b_6 b_7 b_8 b_9 := fun I J => by simp only [TPf, rr_, Option.getD_some, hb_5, hb_6, hb_7, hb_8, hb_9]
  have wtqa0 : tqw_ L κ ow a0 b_5 b_6 b_7 b_8 b_9 := ⟨⟨hLa0, hb_5L, hb_6L, hb_7L, hb_8L, hb_9L⟩, ⟨(ro_o hka0 (by decide)), (ro_a hb_5k (by decide) hb_5o hka0 rfl), (ro_a hb_6k (by decide) hb_6o hka0 rfl), (ro_a hb_7k (by decide) hb_7o hka0 rfl), (ro_a hb_8k (by decide) hb_8o hka0 rfl), (ro_a hb_9k (by decide) hb_9o hka0 rfl)⟩⟩
  obtain ⟨s_10, hs_10⟩ : ∃ z, TPq I J a0 b_5 b_6 b_7 b_8 b_9 = z := ⟨_, rfl⟩
  have esqx : ∀ I J, SPf R I J x = SPq I J x := fun I J => by simp only [SPf, rr_, Option.getD_some]
  have wsqx : sqw_ L κ ow x := ⟨hLx, (ro_o hkx (by decide))⟩
  obtain ⟨s_11, hs_11⟩ : ∃ z, SPq I J x = z := ⟨_, rfl⟩
  refine g_lo (is := [0, 1, 2, 3]) (lo2 := [(0, .ref x), (1, .ref a0), (2, .ref a1), (3, .int a2)]) rfl ?_
  refine g_aload_n C 1 dX7_readOne_0 rfl rfl ?_
  obtain ⟨x_12, hx_12, rx_12⟩ := ex_get (I := I) (a := a0) (j := 8) (lo := (-2147483648)) (hi := 2147483647) hU.1 hLa0 (ro_o hka0 (by decide)) rfl
  have f_13 : s_10.token = x_12 := (congrArg TP_.token hs_10).symm.trans hx_12
  refine g_getI C K hLa0 hka0 f_7_57 (v := x_12) hx_12 dX7_readOne_1 ?_
  refine g_istore C dX7_readOne_4 (by decide) (lo2 := [(4, .int x_12), (0, .ref x), (1, .ref a0), (2, .ref a1), (3, .int a2)]) rfl ?_
  refine g_iload C 0 dX7_readOne_6 rfl ?_
  refine g_callSI C K (c_X7_beginsOne W9 x_12  hU) s_7_70 rfl ⟨rfl, rfl⟩ ⟨Nat.le_of_ble_eq_true rfl, Nat.le_of_ble_eq_true rfl⟩ (Nat.le_of_ble_eq_true rfl) ⟨Nat.le_of_ble_eq_true rfl, Nat.le_of_ble_eq_true rfl⟩ dX7_readOne_8 rfl (st := []) (fun x_14 I_15 J_16 h_17 => ?_)
  obtain ⟨rfl, rfl, rx_14, fx_14⟩ := h_17
  have c_18 : fBegOne (x_12) = x_14 := fx_14.symm
  refine g_if_ne C (tgt := 20) dX7_readOne_11 (by decide) (fun h_19 => ?_) (fun h_19 => ?_)
  · skip
    have n_20 : ¬ x_14 = 0 := h_19
    have r_21 := ne_lo (lo := 1) n_20 rx_14 rc_0 rfl (by decide)
    refine g_aload_n C 1 dX7_readOne_20 rfl rfl ?_
    obtain ⟨x_22, hx_22, rx_22⟩ := ex_get (I := I) (a := x) (j := 5) (lo := (-2147483648)) (hi := 2147483647) hU.1 hLx (ro_o hkx (by decide)) rfl
    have f_23 : s_11.so = x_22 := (congrArg SP_.so hs_11).symm.trans hx_22
    refine g_getI C K hLx hkx f_7_28 (v := x_22) hx_22 dX7_readOne_21 ?_
    refine g_bipush C (v := 20) dX7_readOne_24 (by decide) ?_
    refine g_icmp_ge C (tgt := 35) dX7_readOne_26 (by decide) (fun h_24 => ?_) (fun h_24 => ?_)
    · skip
      have r_25 := le_r (h_24) rc_20 rx_22
      refine g_aload_n C 2 dX7_readOne_35 rfl rfl ?_
      refine g_iconst C (v := 4) dX7_readOne_36 (by decide) ?_
      refine g_callVI C K (c_X10_fail W9 hLa0 hka0 4 (rg_w rc_4 (by decide) (by decide)) hU) hLa0 hka0 (by decide) rfl v_7_73 rfl ⟨rfl, rfl⟩ ⟨Nat.le_of_ble_eq_true rfl, Nat.le_of_ble_eq_true rfl⟩ (Nat.le_of_ble_eq_true rfl) ⟨Nat.le_of_ble_eq_true rfl, Nat.le_of_ble_eq_true rfl⟩ dX7_readOne_37 rfl (st := []) (fun x_26 I_27 J_28 h_29 => ?_)
      obtain ⟨hUI_27, hFI_27, hGJ_28, rx_26, fx_26⟩ := h_29
      have hF_30 := fq_tr hF hFI_27 (by decide)
      have hG_31 := fq_tr hG hGJ_28 (by decide)
      obtain ⟨s_33, hs_33⟩ : ∃ z, TPq I_27 J_28 a0 b_5 b_6 b_7 b_8 b_9 = z := ⟨_, rfl⟩
      have c_32 : fFail (4) (s_10) = (x_26, s_33) := by have q := fx_26; simp only [etqa0, hs_10, hs_33] at q; exact q.symm
      have hs_34 : TBq I_27 J_28 a1 b_1 b_2 b_3 = s_4 := (bq_fq wbqa1 hFI_27 hGJ_28 (by decide) (by decide)).trans hs_4
      have hs_35 : SPq I_27 J_28 x = s_11 := (sq_fq wsqx hFI_27 hGJ_28 (by decide) (by decide)).trans hs_11
      exact g_zret (ty := .boolean) (r := x_26) B K rfl (nar_z (rg_w rx_26 (by decide) (by decide))) ⟨hUI_27, hF_30, hG_31, rg_w rx_26 (by decide) (by decide), (by simp only [fOne_k2, fAnd2, fFailS, fCmp, ebqa1, hs_34, hs_4, etqa0, hs_33, hs_10, esqx, hs_35, hs_11, hx_12, f_13, c_18, h_19, hx_22, f_23, h_24, c_32, if_true, if_false, bqM_pnm, bqM_par, bqM_dnm, bqM_persons, bqM_dishes, bqM_law, bqM_dogs, TB_.w_pnm, TB_.w_par, TB_.w_dnm, TB_.w_persons, TB_.w_dishes, TB_.w_law, TB_.w_dogs, sqM_sl, sqM_so, SP_.w_sl, SP_.w_so, tqM_by_, tqM_wd, tqM_tk, tqM_pl, tqM_vl, tqM_len, tqM_n, tqM_at_, tqM_token, tqM_place, tqM_value, tqM_fault, tqM_fat, TP_.w_by_, TP_.w_wd, TP_.w_tk, TP_.w_pl, TP_.w_vl, TP_.w_len, TP_.w_n, TP_.w_at_, TP_.w_token, TP_.w_place, TP_.w_value, TP_.w_fault, TP_.w_fat])⟩ dX7_readOne_40
    · skip
      have r_36 := lt_l (hi := 19) (nle h_24) rx_22 rc_20 (by decide)
      refine g_iload_n C 4 dX7_readOne_29 rfl rfl ?_
      refine g_bipush C (v := 8) dX7_readOne_30 (by decide) ?_
      refine g_icmp_le C (tgt := 41) dX7_readOne_32 (by decide) (fun h_37 => ?_) (fun h_37 => ?_)
      · skip
        refine g_aload_n C 1 dX7_readOne_41 rfl rfl ?_
        refine g_dup C dX7_readOne_42 rfl ?_
        refine g_getI C K hLx hkx f_7_28 (v := x_22) hx_22 dX7_readOne_43 ?_
        refine g_iconst C (v := 1) dX7_readOne_46 (by decide) ?_
        obtain ⟨x_38, hx_38, rx_38, tx_38⟩ := ex_add (-2147483647) 20 r_36 rc_1 (by decide) (by decide) (by decide) (by decide)
        refine g_iadd C (v := x_38) dX7_readOne_47 hx_38 ?_
        refine h_putI C K hLx hkx f_7_28 p_7_5 dX7_readOne_48 (fun I_39 hI_39 => ?_)
        have hU_40 := iv_put W9 hU hI_39 (ro_o hkx (by decide)) (lo := (-2147483648)) (hi := 2147483647) (rfl) (rg_all _) rfl
        have hF_41 := fq_puto hF hI_39 hkx (by decide) (by decide)
        have hs_42 : TBq I_39 J a1 b_1 b_2 b_3 = s_4 := by rw [hI_39]; exact (bq_oI wbqa1 (ro_o hkx (by decide)) (by decide)).trans hs_4
        have hs_43 : TPq I_39 J a0 b_5 b_6 b_7 b_8 b_9 = s_10 := by rw [hI_39]; exact (tq_oI wtqa0 (ro_o hkx (by decide)) (by decide)).trans hs_10
        have hs_44 : SPq I_39 J x = (SP_.w_so s_11 (x_38)) := by rw [hI_39]; exact ((sq_so wsqx).trans (congrArg (fun z : SP_ => SP_.w_so z (x_38)) hs_11)).trans rfl
        refine g_aload_n C 2 dX7_readOne_51 rfl rfl ?_
        refine g_callVV C K (c_X10_advance W9 hLa0 hka0   hU_40) hLa0 hka0 (by decide) rfl v_7_60 rfl ⟨rfl, rfl⟩ ⟨Nat.le_of_ble_eq_true rfl, Nat.le_of_ble_eq_true rfl⟩ (Nat.le_of_ble_eq_true rfl) ⟨Nat.le_of_ble_eq_true rfl, Nat.le_of_ble_eq_true rfl⟩ dX7_readOne_52 rfl (st := []) (fun I_46 J_47 h_48 => ?_)
        obtain ⟨hUI_46, hFI_46, hGJ_47, fx_45⟩ := h_48
        have hF_49 := fq_tr hF_41 hFI_46 (by decide)
        have hG_50 := fq_tr hG hGJ_47 (by decide)
        obtain ⟨s_52, hs_52⟩ : ∃ z, TPq I_46 J_47 a0 b_5 b_6 b_7 b_8 b_9 = z := ⟨_, rfl⟩
        have c_51 : fAdvance (s_10) = s_52 := by have q := fx_45; simp only [etqa0, hs_43, hs_52] at q; exact q.symm
        have hs_53 : TBq I_46 J_47 a1 b_1 b_2 b_3 = s_4 := (bq_fq wbqa1 hFI_46 hGJ_47 (by decide) (by decide)).trans hs_42
        have hs_54 : SPq I_46 J_47 x = (SP_.w_so s_11 (x_38)) := (sq_fq wsqx hFI_46 hGJ_47 (by decide) (by decide)).trans hs_44
        refine g_iload C 0 dX7_readOne_55 rfl ?_
        refine g_bipush C (v := 40) dX7_readOne_57 (by decide) ?_
        refine g_icmp_ne C (tgt := 89) dX7_readOne_59 (by decide) (fun h_55 => ?_) (fun h_55 => ?_)
        · skip
          have n_56 : ¬ x_12 = 40 := h_55
          refine g_iload C 0 dX7_readOne_89 rfl ?_
          refine g_bipush C (v := 19) dX7_readOne_91 (by decide) ?_
          refine g_icmp_ne C (tgt := 125) dX7_readOne_93 (by decide) (fun h_57 => ?_) (fun h_57 => ?_)
          · skip
            have n_58 : ¬ x_12 = 19 := h_57
            refine g_aload_n C 1 dX7_readOne_125 rfl rfl ?_
            refine g_aload_n C 2 dX7_readOne_126 rfl rfl ?_
            refine g_aload_n C 3 dX7_readOne_127 rfl rfl ?_
            refine g_iload C 0 dX7_readOne_128 rfl ?_
            refine g_callVI C K (c_X7_readPlainOne W9 hLx hkx hLa0 hka0 hLa1 hka1 x_12  hUI_46) hLx hkx (by decide) rfl v_7_76 rfl ⟨rfl, rfl⟩ ⟨Nat.le_of_ble_eq_true rfl, Nat.le_of_ble_eq_true rfl⟩ (Nat.le_of_ble_eq_true rfl) ⟨Nat.le_of_ble_eq_true rfl, Nat.le_of_ble_eq_true rfl⟩ dX7_readOne_130 rfl (st := []) (fun x_59 I_60 J_61 h_62 => ?_)
            obtain ⟨hUI_60, hFI_60, hGJ_61, rx_59, fx_59⟩ := h_62
            have hF_63 := fq_tr hF_49 hFI_60 (by decide)
            have hG_64 := fq_tr hG_50 hGJ_61 (by decide)
            obtain ⟨s_66, hs_66⟩ : ∃ z, TPq I_60 J_61 a0 b_5 b_6 b_7 b_8 b_9 = z := ⟨_, rfl⟩
            obtain ⟨s_67, hs_67⟩ : ∃ z, SPq I_60 J_61 x = z := ⟨_, rfl⟩
            have c_65 : fPlain (x_12) (s_4) (s_52) ((SP_.w_so s_11 (x_38))) = (x_59, s_66, s_67) := by have q := fx_59; simp only [ebqa1, etqa0, esqx, hs_53, hs_52, hs_54, hs_66, hs_67] at q; exact q.symm
            have hs_68 : TBq I_60 J_61 a1 b_1 b_2 b_3 = s_4 := (bq_fq wbqa1 hFI_60 hGJ_61 (by decide) (by decide)).trans hs_53
            exact g_zret (ty := .boolean) (r := x_59) B K rfl (nar_z (rx_59)) ⟨hUI_60, hF_63, hG_64, rx_59, (by (try simp only [hx_12, f_13, c_18, h_19, hx_22, f_23, h_24, (nle h_24), h_37, hx_38, c_51, h_55, h_57, if_true, if_false, bqM_pnm, bqM_par, bqM_dnm, bqM_persons, bqM_dishes, bqM_law, bqM_dogs, TB_.w_pnm, TB_.w_par, TB_.w_dnm, TB_.w_persons, TB_.w_dishes, TB_.w_law, TB_.w_dogs, sqM_sl, sqM_so, SP_.w_sl, SP_.w_so, tqM_by_, tqM_wd, tqM_tk, tqM_pl, tqM_vl, tqM_len, tqM_n, tqM_at_, tqM_token, tqM_place, tqM_value, tqM_fault, tqM_fat, TP_.w_by_, TP_.w_wd, TP_.w_tk, TP_.w_pl, TP_.w_vl, TP_.w_len, TP_.w_n, TP_.w_at_, TP_.w_token, TP_.w_place, TP_.w_value, TP_.w_fault, TP_.w_fat] at c_65); simp only [fOne_k2, fAnd2, fFailS, fCmp, ebqa1, hs_68, hs_4, etqa0, hs_66, hs_10, esqx, hs_67, hs_11, hx_12, f_13, c_18, h_19, hx_22, f_23, h_24, (nle h_24), h_37, hx_38, c_51, h_55, h_57, c_65, if_true, if_false, bqM_pnm, bqM_par, bqM_dnm, bqM_persons, bqM_dishes, bqM_law, bqM_dogs, TB_.w_pnm, TB_.w_par, TB_.w_dnm, TB_.w_persons, TB_.w_dishes, TB_.w_law, TB_.w_dogs, sqM_sl, sqM_so, SP_.w_sl, SP_.w_so, tqM_by_, tqM_wd, tqM_tk, tqM_pl, tqM_vl, tqM_len, tqM_n, tqM_at_, tqM_token, tqM_place, tqM_value, tqM_fault, tqM_fat, TP_.w_by_, TP_.w_wd, TP_.w_tk, TP_.w_pl, TP_.w_vl, TP_.w_len, TP_.w_n, TP_.w_at_, TP_.w_token, TP_.w_place, TP_.w_value, TP_.w_fault, TP_.w_fat])⟩ dX7_readOne_133
          · skip
            have r_69 := (⟨(eq_rg (h_57) rc_19).1, (eq_rg (h_57) rc_19).2⟩ : Rg 19 19 x_12)
            refine g_aload_n C 1 dX7_readOne_96 rfl rfl ?_
            refine g_aload_n C 2 dX7_readOne_97 rfl rfl ?_
            refine g_aload_n C 3 dX7_readOne_98 rfl rfl ?_
            refine g_iload_n C 4 dX7_readOne_99 rfl rfl ?_
            refine g_iconst C (v := 1) dX7_readOne_100 (by decide) ?_
            obtain ⟨x_70, hx_70, rx_70, tx_70⟩ := ex_add 8 8 ra2 rc_1 (by decide) (by decide) (by decide) (by decide)
            refine g_iadd C (v := x_70) dX7_readOne_101 hx_70 ?_
            refine g_callVI C K (c_X7_readOne_8 W9 hLx hkx hLa0 hka0 hLa1 hka1 x_70 (rx_70) hUI_46) hLx hkx (by decide) rfl v_7_67 rfl ⟨rfl, rfl⟩ ⟨Nat.le_of_ble_eq_true rfl, Nat.le_of_ble_eq_true rfl⟩ (Nat.le_of_ble_eq_true rfl) ⟨Nat.le_of_ble_eq_true rfl, Nat.le_of_ble_eq_true rfl⟩ dX7_readOne_102 rfl (st := []) (fun x_71 I_72 J_73 h_74 => ?_)
            obtain ⟨hUI_72, hFI_72, hGJ_73, rx_71, fx_71⟩ := h_74
            have hF_75 := fq_tr hF_49 hFI_72 (by decide)
            have hG_76 := fq_tr hG_50 hGJ_73 (by decide)
            obtain ⟨s_78, hs_78⟩ : ∃ z, TPq I_72 J_73 a0 b_5 b_6 b_7 b_8 b_9 = z := ⟨_, rfl⟩
            obtain ⟨s_79, hs_79⟩ : ∃ z, SPq I_72 J_73 x = z := ⟨_, rfl⟩
            have c_77 : fOne 1 (s_4) (s_52) ((SP_.w_so s_11 (x_38))) = (x_71, s_78, s_79) := by have q := fx_71; simp only [ebqa1, etqa0, esqx, hs_53, hs_52, hs_54, hs_78, hs_79] at q; exact q.symm
            have hs_80 : TBq I_72 J_73 a1 b_1 b_2 b_3 = s_4 := (bq_fq wbqa1 hFI_72 hGJ_73 (by decide) (by decide)).trans hs_53
            refine g_if_eq C (tgt := 123) dX7_readOne_105 (by decide) (fun h_81 => ?_) (fun h_81 => ?_)
            · skip
              have r_82 := (⟨(rx_71).1, (eq_rg (h_81) rc_0).2⟩ : Rg 0 0 x_71)
              refine g_iconst C (v := 0) dX7_readOne_123 (by decide) ?_
              exact g_zret (ty := .boolean) (r := 0) B K rfl (rfl) ⟨hUI_72, hF_75, hG_76, rg_w rc_0 (by decide) (by decide), (by (try simp only [hx_12, f_13, c_18, h_19, hx_22, f_23, h_24, (nle h_24), h_37, hx_38, c_51, h_55, (eq_true h_57), hx_70, (eq_true h_81), if_true, if_false, bqM_pnm, bqM_par, bqM_dnm, bqM_persons, bqM_dishes, bqM_law, bqM_dogs, TB_.w_pnm, TB_.w_par, TB_.w_dnm, TB_.w_persons, TB_.w_dishes, TB_.w_law, TB_.w_dogs, sqM_sl, sqM_so, SP_.w_sl, SP_.w_so, tqM_by_, tqM_wd, tqM_tk, tqM_pl, tqM_vl, tqM_len, tqM_n, tqM_at_, tqM_token, tqM_place, tqM_value, tqM_fault, tqM_fat, TP_.w_by_, TP_.w_wd, TP_.w_tk, TP_.w_pl, TP_.w_vl, TP_.w_len, TP_.w_n, TP_.w_at_, TP_.w_token, TP_.w_place, TP_.w_value, TP_.w_fault, TP_.w_fat] at c_77); simp only [fOne_k2, fAnd2, fFailS, fCmp, ebqa1, hs_80, hs_4, etqa0, hs_78, hs_10, esqx, hs_79, hs_11, hx_12, f_13, c_18, h_19, hx_22, f_23, h_24, (nle h_24), h_37, hx_38, c_51, h_55, (eq_true h_57), hx_70, c_77, (eq_true h_81), if_true, if_false, bqM_pnm, bqM_par, bqM_dnm, bqM_persons, bqM_dishes, bqM_law, bqM_dogs, TB_.w_pnm, TB_.w_par, TB_.w_dnm, TB_.w_persons, TB_.w_dishes, TB_.w_law, TB_.w_dogs, sqM_sl, sqM_so, SP_.w_sl, SP_.w_so, tqM_by_, tqM_wd, tqM_tk, tqM_pl, tqM_vl, tqM_len, tqM_n, tqM_at_, tqM_token, tqM_place, tqM_value, tqM_fault, tqM_fat, TP_.w_by_, TP_.w_wd, TP_.w_tk, TP_.w_pl, TP_.w_vl, TP_.w_len, TP_.w_n, TP_.w_at_, TP_.w_token, TP_.w_place, TP_.w_value, TP_.w_fault, TP_.w_fat])⟩ dX7_readOne_124
            · skip
              have n_83 : ¬ x_71 = 0 := h_81
              have r_84 := ne_lo (lo := 1) n_83 rx_71 rc_0 rfl (by decide)
              refine g_aload_n C 1 dX7_readOne_108 rfl rfl ?_
              refine g_bipush C (v := 19) dX7_readOne_109 (by decide) ?_
              refine g_iconst C (v := 0) dX7_readOne_111 (by decide) ?_
              refine g_iconst C (v := 0) dX7_readOne_112 (by decide) ?_
              refine g_callVI C K (c_X7_addStep W9 hLx hkx 19 0 0 (rg_w rc_0 (by decide) (by decide)) hUI_72  (fun q => absurd q (by decide))) hLx hkx (by decide) rfl v_7_63 rfl ⟨rfl, rfl⟩ ⟨Nat.le_of_ble_eq_true rfl, Nat.le_of_ble_eq_true rfl⟩ (Nat.le_of_ble_eq_true rfl) ⟨Nat.le_of_ble_eq_true rfl, Nat.le_of_ble_eq_true rfl⟩ dX7_readOne_113 rfl (st := []) (fun x_85 I_86 J_87 h_88 => ?_)
              obtain ⟨hUI_86, hFI_86, hGJ_87, rx_85, fx_85⟩ := h_88
              have hF_89 := fq_tr hF_75 hFI_86 (by decide)
              have hG_90 := fq_tr hG_76 hGJ_87 (by decide)
              obtain ⟨s_92, hs_92⟩ : ∃ z, SPq I_86 J_87 x = z := ⟨_, rfl⟩
              have c_91 : fAddStep (s_79) = (x_85, s_92) := by have q := fx_85; simp only [esqx, hs_79, hs_92] at q; exact q.symm
              have hs_93 : TBq I_86 J_87 a1 b_1 b_2 b_3 = s_4 := (bq_fq wbqa1 hFI_86 hGJ_87 (by decide) (by decide)).trans hs_80
              have hs_94 : TPq I_86 J_87 a0 b_5 b_6 b_7 b_8 b_9 = s_78 := (tq_fq wtqa0 hFI_86 hGJ_87 (by decide) (by decide)).trans hs_78
              refine g_if_eq C (tgt := 123) dX7_readOne_116 (by decide) (fun h_95 => ?_) (fun h_95 => ?_)
              · skip
                have r_96 := (⟨(rx_85).1, (eq_rg (h_95) rc_0).2⟩ : Rg 0 0 x_85)
                refine g_iconst C (v := 0) dX7_readOne_123 (by decide) ?_
                exact g_zret (ty := .boolean) (r := 0) B K rfl (rfl) ⟨hUI_86, hF_89, hG_90, rg_w rc_0 (by decide) (by decide), (by (try simp only [hx_12, f_13, c_18, h_19, hx_22, f_23, h_24, (nle h_24), h_37, hx_38, c_51, h_55, (eq_true h_57), hx_70, h_81, c_91, (eq_true h_95), if_true, if_false, bqM_pnm, bqM_par, bqM_dnm, bqM_persons, bqM_dishes, bqM_law, bqM_dogs, TB_.w_pnm, TB_.w_par, TB_.w_dnm, TB_.w_persons, TB_.w_dishes, TB_.w_law, TB_.w_dogs, sqM_sl, sqM_so, SP_.w_sl, SP_.w_so, tqM_by_, tqM_wd, tqM_tk, tqM_pl, tqM_vl, tqM_len, tqM_n, tqM_at_, tqM_token, tqM_place, tqM_value, tqM_fault, tqM_fat, TP_.w_by_, TP_.w_wd, TP_.w_tk, TP_.w_pl, TP_.w_vl, TP_.w_len, TP_.w_n, TP_.w_at_, TP_.w_token, TP_.w_place, TP_.w_value, TP_.w_fault, TP_.w_fat] at c_77); simp only [fOne_k2, fAnd2, fFailS, fCmp, ebqa1, hs_93, hs_4, etqa0, hs_94, hs_10, esqx, hs_92, hs_11, hx_12, f_13, c_18, h_19, hx_22, f_23, h_24, (nle h_24), h_37, hx_38, c_51, h_55, (eq_true h_57), hx_70, c_77, h_81, c_91, (eq_true h_95), if_true, if_false, bqM_pnm, bqM_par, bqM_dnm, bqM_persons, bqM_dishes, bqM_law, bqM_dogs, TB_.w_pnm, TB_.w_par, TB_.w_dnm, TB_.w_persons, TB_.w_dishes, TB_.w_law, TB_.w_dogs, sqM_sl, sqM_so, SP_.w_sl, SP_.w_so, tqM_by_, tqM_wd, tqM_tk, tqM_pl, tqM_vl, tqM_len, tqM_n, tqM_at_, tqM_token, tqM_place, tqM_value, tqM_fault, tqM_fat, TP_.w_by_, TP_.w_wd, TP_.w_tk, TP_.w_pl, TP_.w_vl, TP_.w_len, TP_.w_n, TP_.w_at_, TP_.w_token, TP_.w_place, TP_.w_value, TP_.w_fault, TP_.w_fat])⟩ dX7_readOne_124
              · skip
                have n_97 : ¬ x_85 = 0 := h_95
                have r_98 := ne_lo (lo := 1) n_97 rx_85 rc_0 rfl (by decide)
                refine g_iconst C (v := 1) dX7_readOne_119 (by decide) ?_
                refine g_goto C (tgt := 124) dX7_readOne_120 (by decide) ?_
                exact g_zret (ty := .boolean) (r := 1) B K rfl (rfl) ⟨hUI_86, hF_89, hG_90, rg_w rc_1 (by decide) (by decide), (by (try simp only [hx_12, f_13, c_18, h_19, hx_22, f_23, h_24, (nle h_24), h_37, hx_38, c_51, h_55, (eq_true h_57), hx_70, h_81, c_91, h_95, if_true, if_false, bqM_pnm, bqM_par, bqM_dnm, bqM_persons, bqM_dishes, bqM_law, bqM_dogs, TB_.w_pnm, TB_.w_par, TB_.w_dnm, TB_.w_persons, TB_.w_dishes, TB_.w_law, TB_.w_dogs, sqM_sl, sqM_so, SP_.w_sl, SP_.w_so, tqM_by_, tqM_wd, tqM_tk, tqM_pl, tqM_vl, tqM_len, tqM_n, tqM_at_, tqM_token, tqM_place, tqM_value, tqM_fault, tqM_fat, TP_.w_by_, TP_.w_wd, TP_.w_tk, TP_.w_pl, TP_.w_vl, TP_.w_len, TP_.w_n, TP_.w_at_, TP_.w_token, TP_.w_place, TP_.w_value, TP_.w_fault, TP_.w_fat] at c_77); simp only [fOne_k2, fAnd2, fFailS, fCmp, ebqa1, hs_93, hs_4, etqa0, hs_94, hs_10, esqx, hs_92, hs_11, hx_12, f_13, c_18, h_19, hx_22, f_23, h_24, (nle h_24), h_37, hx_38, c_51, h_55, (eq_true h_57), hx_70, c_77, h_81, c_91, h_95, if_true, if_false, bqM_pnm, bqM_par, bqM_dnm, bqM_persons, bqM_dishes, bqM_law, bqM_dogs, TB_.w_pnm, TB_.w_par, TB_.w_dnm, TB_.w_persons, TB_.w_dishes, TB_.w_law, TB_.w_dogs, sqM_sl, sqM_so, SP_.w_sl, SP_.w_so, tqM_by_, tqM_wd, tqM_tk, tqM_pl, tqM_vl, tqM_len, tqM_n, tqM_at_, tqM_token, tqM_place, tqM_value, tqM_fault, tqM_fat, TP_.w_by_, TP_.w_wd, TP_.w_tk, TP_.w_pl, TP_.w_vl, TP_.w_len, TP_.w_n, TP_.w_at_, TP_.w_token, TP_.w_place, TP_.w_value, TP_.w_fault, TP_.w_fat])⟩ dX7_readOne_124
        · skip
          have r_99 := (⟨(eq_rg (h_55) rc_40).1, (eq_rg (h_55) rc_40).2⟩ : Rg 40 40 x_12)
          refine g_aload_n C 1 dX7_readOne_62 rfl rfl ?_
          refine g_aload_n C 2 dX7_readOne_63 rfl rfl ?_
          refine g_aload_n C 3 dX7_readOne_64 rfl rfl ?_
          refine g_iload_n C 4 dX7_readOne_65 rfl rfl ?_
          refine g_iconst C (v := 1) dX7_readOne_66 (by decide) ?_
          obtain ⟨x_100, hx_100, rx_100, tx_100⟩ := ex_add 8 8 ra2 rc_1 (by decide) (by decide) (by decide) (by decide)
          refine g_iadd C (v := x_100) dX7_readOne_67 hx_100 ?_
          refine g_callVI C K (c_X7_readCond_8 W9 hLx hkx hLa0 hka0 hLa1 hka1 x_100 (rx_100) hUI_46) hLx hkx (by decide) rfl v_7_46 rfl ⟨rfl, rfl⟩ ⟨Nat.le_of_ble_eq_true rfl, Nat.le_of_ble_eq_true rfl⟩ (Nat.le_of_ble_eq_true rfl) ⟨Nat.le_of_ble_eq_true rfl, Nat.le_of_ble_eq_true rfl⟩ dX7_readOne_68 rfl (st := []) (fun x_101 I_102 J_103 h_104 => ?_)
          obtain ⟨hUI_102, hFI_102, hGJ_103, rx_101, fx_101⟩ := h_104
          have hF_105 := fq_tr hF_49 hFI_102 (by decide)
          have hG_106 := fq_tr hG_50 hGJ_103 (by decide)
          obtain ⟨s_108, hs_108⟩ : ∃ z, TPq I_102 J_103 a0 b_5 b_6 b_7 b_8 b_9 = z := ⟨_, rfl⟩
          obtain ⟨s_109, hs_109⟩ : ∃ z, SPq I_102 J_103 x = z := ⟨_, rfl⟩
          have c_107 : fCond 1 (s_4) (s_52) ((SP_.w_so s_11 (x_38))) = (x_101, s_108, s_109) := by have q := fx_101; simp only [ebqa1, etqa0, esqx, hs_53, hs_52, hs_54, hs_108, hs_109] at q; exact q.symm
          have hs_110 : TBq I_102 J_103 a1 b_1 b_2 b_3 = s_4 := (bq_fq wbqa1 hFI_102 hGJ_103 (by decide) (by decide)).trans hs_53
          refine g_if_eq C (tgt := 87) dX7_readOne_71 (by decide) (fun h_111 => ?_) (fun h_111 => ?_)
          · skip
            have r_112 := (⟨(rx_101).1, (eq_rg (h_111) rc_0).2⟩ : Rg 0 0 x_101)
            refine g_iconst C (v := 0) dX7_readOne_87 (by decide) ?_
            exact g_zret (ty := .boolean) (r := 0) B K rfl (rfl) ⟨hUI_102, hF_105, hG_106, rg_w rc_0 (by decide) (by decide), (by (try simp only [hx_12, f_13, c_18, h_19, hx_22, f_23, h_24, (nle h_24), h_37, hx_38, c_51, (eq_true h_55), hx_100, (eq_true h_111), if_true, if_false, bqM_pnm, bqM_par, bqM_dnm, bqM_persons, bqM_dishes, bqM_law, bqM_dogs, TB_.w_pnm, TB_.w_par, TB_.w_dnm, TB_.w_persons, TB_.w_dishes, TB_.w_law, TB_.w_dogs, sqM_sl, sqM_so, SP_.w_sl, SP_.w_so, tqM_by_, tqM_wd, tqM_tk, tqM_pl, tqM_vl, tqM_len, tqM_n, tqM_at_, tqM_token, tqM_place, tqM_value, tqM_fault, tqM_fat, TP_.w_by_, TP_.w_wd, TP_.w_tk, TP_.w_pl, TP_.w_vl, TP_.w_len, TP_.w_n, TP_.w_at_, TP_.w_token, TP_.w_place, TP_.w_value, TP_.w_fault, TP_.w_fat] at c_107); simp only [fOne_k2, fAnd2, fFailS, fCmp, ebqa1, hs_110, hs_4, etqa0, hs_108, hs_10, esqx, hs_109, hs_11, hx_12, f_13, c_18, h_19, hx_22, f_23, h_24, (nle h_24), h_37, hx_38, c_51, (eq_true h_55), hx_100, c_107, (eq_true h_111), if_true, if_false, bqM_pnm, bqM_par, bqM_dnm, bqM_persons, bqM_dishes, bqM_law, bqM_dogs, TB_.w_pnm, TB_.w_par, TB_.w_dnm, TB_.w_persons, TB_.w_dishes, TB_.w_law, TB_.w_dogs, sqM_sl, sqM_so, SP_.w_sl, SP_.w_so, tqM_by_, tqM_wd, tqM_tk, tqM_pl, tqM_vl, tqM_len, tqM_n, tqM_at_, tqM_token, tqM_place, tqM_value, tqM_fault, tqM_fat, TP_.w_by_, TP_.w_wd, TP_.w_tk, TP_.w_pl, TP_.w_vl, TP_.w_len, TP_.w_n, TP_.w_at_, TP_.w_token, TP_.w_place, TP_.w_value, TP_.w_fault, TP_.w_fat])⟩ dX7_readOne_88
          · skip
            have n_113 : ¬ x_101 = 0 := h_111
            have r_114 := ne_lo (lo := 1) n_113 rx_101 rc_0 rfl (by decide)
            refine g_aload_n C 2 dX7_readOne_74 rfl rfl ?_
            refine g_bipush C (v := 41) dX7_readOne_75 (by decide) ?_
            refine g_callVI C K (c_X10_take W9 hLa0 hka0 41 (rg_w rc_41 (by decide) (by decide)) hUI_102) hLa0 hka0 (by decide) rfl v_7_50 rfl ⟨rfl, rfl⟩ ⟨Nat.le_of_ble_eq_true rfl, Nat.le_of_ble_eq_true rfl⟩ (Nat.le_of_ble_eq_true rfl) ⟨Nat.le_of_ble_eq_true rfl, Nat.le_of_ble_eq_true rfl⟩ dX7_readOne_77 rfl (st := []) (fun x_115 I_116 J_117 h_118 => ?_)
            obtain ⟨hUI_116, hFI_116, hGJ_117, rx_115, fx_115⟩ := h_118
            have hF_119 := fq_tr hF_105 hFI_116 (by decide)
            have hG_120 := fq_tr hG_106 hGJ_117 (by decide)
            obtain ⟨s_122, hs_122⟩ : ∃ z, TPq I_116 J_117 a0 b_5 b_6 b_7 b_8 b_9 = z := ⟨_, rfl⟩
            have c_121 : fTake (41) (s_108) = (x_115, s_122) := by have q := fx_115; simp only [etqa0, hs_108, hs_122] at q; exact q.symm
            have hs_123 : TBq I_116 J_117 a1 b_1 b_2 b_3 = s_4 := (bq_fq wbqa1 hFI_116 hGJ_117 (by decide) (by decide)).trans hs_110
            have hs_124 : SPq I_116 J_117 x = s_109 := (sq_fq wsqx hFI_116 hGJ_117 (by decide) (by decide)).trans hs_109
            refine g_if_eq C (tgt := 87) dX7_readOne_80 (by decide) (fun h_125 => ?_) (fun h_125 => ?_)
            · skip
              have r_126 := (⟨(rx_115).1, (eq_rg (h_125) rc_0).2⟩ : Rg 0 0 x_115)
              refine g_iconst C (v := 0) dX7_readOne_87 (by decide) ?_
              exact g_zret (ty := .boolean) (r := 0) B K rfl (rfl) ⟨hUI_116, hF_119, hG_120, rg_w rc_0 (by decide) (by decide), (by (try simp only [hx_12, f_13, c_18, h_19, hx_22, f_23, h_24, (nle h_24), h_37, hx_38, c_51, (eq_true h_55), hx_100, h_111, c_121, (eq_true h_125), if_true, if_false, bqM_pnm, bqM_par, bqM_dnm, bqM_persons, bqM_dishes, bqM_law, bqM_dogs, TB_.w_pnm, TB_.w_par, TB_.w_dnm, TB_.w_persons, TB_.w_dishes, TB_.w_law, TB_.w_dogs, sqM_sl, sqM_so, SP_.w_sl, SP_.w_so, tqM_by_, tqM_wd, tqM_tk, tqM_pl, tqM_vl, tqM_len, tqM_n, tqM_at_, tqM_token, tqM_place, tqM_value, tqM_fault, tqM_fat, TP_.w_by_, TP_.w_wd, TP_.w_tk, TP_.w_pl, TP_.w_vl, TP_.w_len, TP_.w_n, TP_.w_at_, TP_.w_token, TP_.w_place, TP_.w_value, TP_.w_fault, TP_.w_fat] at c_107); simp only [fOne_k2, fAnd2, fFailS, fCmp, ebqa1, hs_123, hs_4, etqa0, hs_122, hs_10, esqx, hs_124, hs_11, hx_12, f_13, c_18, h_19, hx_22, f_23, h_24, (nle h_24), h_37, hx_38, c_51, (eq_true h_55), hx_100, c_107, h_111, c_121, (eq_true h_125), if_true, if_false, bqM_pnm, bqM_par, bqM_dnm, bqM_persons, bqM_dishes, bqM_law, bqM_dogs, TB_.w_pnm, TB_.w_par, TB_.w_dnm, TB_.w_persons, TB_.w_dishes, TB_.w_law, TB_.w_dogs, sqM_sl, sqM_so, SP_.w_sl, SP_.w_so, tqM_by_, tqM_wd, tqM_tk, tqM_pl, tqM_vl, tqM_len, tqM_n, tqM_at_, tqM_token, tqM_place, tqM_value, tqM_fault, tqM_fat, TP_.w_by_, TP_.w_wd, TP_.w_tk, TP_.w_pl, TP_.w_vl, TP_.w_len, TP_.w_n, TP_.w_at_, TP_.w_token, TP_.w_place, TP_.w_value, TP_.w_fault, TP_.w_fat])⟩ dX7_readOne_88
            · skip
              have n_127 : ¬ x_115 = 0 := h_125
              have r_128 := ne_lo (lo := 1) n_127 rx_115 rc_0 rfl (by decide)
              refine g_iconst C (v := 1) dX7_readOne_83 (by decide) ?_
              refine g_goto C (tgt := 88) dX7_readOne_84 (by decide) ?_
              exact g_zret (ty := .boolean) (r := 1) B K rfl (rfl) ⟨hUI_116, hF_119, hG_120, rg_w rc_1 (by decide) (by decide), (by (try simp only [hx_12, f_13, c_18, h_19, hx_22, f_23, h_24, (nle h_24), h_37, hx_38, c_51, (eq_true h_55), hx_100, h_111, c_121, h_125, if_true, if_false, bqM_pnm, bqM_par, bqM_dnm, bqM_persons, bqM_dishes, bqM_law, bqM_dogs, TB_.w_pnm, TB_.w_par, TB_.w_dnm, TB_.w_persons, TB_.w_dishes, TB_.w_law, TB_.w_dogs, sqM_sl, sqM_so, SP_.w_sl, SP_.w_so, tqM_by_, tqM_wd, tqM_tk, tqM_pl, tqM_vl, tqM_len, tqM_n, tqM_at_, tqM_token, tqM_place, tqM_value, tqM_fault, tqM_fat, TP_.w_by_, TP_.w_wd, TP_.w_tk, TP_.w_pl, TP_.w_vl, TP_.w_len, TP_.w_n, TP_.w_at_, TP_.w_token, TP_.w_place, TP_.w_value, TP_.w_fault, TP_.w_fat] at c_107); simp only [fOne_k2, fAnd2, fFailS, fCmp, ebqa1, hs_123, hs_4, etqa0, hs_122, hs_10, esqx, hs_124, hs_11, hx_12, f_13, c_18, h_19, hx_22, f_23, h_24, (nle h_24), h_37, hx_38, c_51, (eq_true h_55), hx_100, c_107, h_111, c_121, h_125, if_true, if_false, bqM_pnm, bqM_par, bqM_dnm, bqM_persons, bqM_dishes, bqM_law, bqM_dogs, TB_.w_pnm, TB_.w_par, TB_.w_dnm, TB_.w_persons, TB_.w_dishes, TB_.w_law, TB_.w_dogs, sqM_sl, sqM_so, SP_.w_sl, SP_.w_so, tqM_by_, tqM_wd, tqM_tk, tqM_pl, tqM_vl, tqM_len, tqM_n, tqM_at_, tqM_token, tqM_place, tqM_value, tqM_fault, tqM_fat, TP_.w_by_, TP_.w_wd, TP_.w_tk, TP_.w_pl, TP_.w_vl, TP_.w_len, TP_.w_n, TP_.w_at_, TP_.w_token, TP_.w_place, TP_.w_value, TP_.w_fault, TP_.w_fat])⟩ dX7_readOne_88
      · skip
        have r_129 := lt_r (lo := 9) (nle h_37) rc_8 ra2 (by decide)
        exact rg_no r_129 (by decide)
  · skip
    have r_130 := (⟨(rx_14).1, (eq_rg (h_19) rc_0).2⟩ : Rg 0 0 x_14)
    refine g_aload_n C 2 dX7_readOne_14 rfl rfl ?_
    refine g_iconst C (v := 1) dX7_readOne_15 (by decide) ?_
    refine g_callVI C K (c_X10_fail W9 hLa0 hka0 1 (rg_w rc_1 (by decide) (by decide)) hU) hLa0 hka0 (by decide) rfl v_7_73 rfl ⟨rfl, rfl⟩ ⟨Nat.le_of_ble_eq_true rfl, Nat.le_of_ble_eq_true rfl⟩ (Nat.le_of_ble_eq_true rfl) ⟨Nat.le_of_ble_eq_true rfl, Nat.le_of_ble_eq_true rfl⟩ dX7_readOne_16 rfl (st := []) (fun x_131 I_132 J_133 h_134 => ?_)
    obtain ⟨hUI_132, hFI_132, hGJ_133, rx_131, fx_131⟩ := h_134
    have hF_135 := fq_tr hF hFI_132 (by decide)
    have hG_136 := fq_tr hG hGJ_133 (by decide)
    obtain ⟨s_138, hs_138⟩ : ∃ z, TPq I_132 J_133 a0 b_5 b_6 b_7 b_8 b_9 = z := ⟨_, rfl⟩
    have c_137 : fFail (1) (s_10) = (x_131, s_138) := by have q := fx_131; simp only [etqa0, hs_10, hs_138] at q; exact q.symm
    have hs_139 : TBq I_132 J_133 a1 b_1 b_2 b_3 = s_4 := (bq_fq wbqa1 hFI_132 hGJ_133 (by decide) (by decide)).trans hs_4
    have hs_140 : SPq I_132 J_133 x = s_11 := (sq_fq wsqx hFI_132 hGJ_133 (by decide) (by decide)).trans hs_11
    exact g_zret (ty := .boolean) (r := x_131) B K rfl (nar_z (rg_w rx_131 (by decide) (by decide))) ⟨hUI_132, hF_135, hG_136, rg_w rx_131 (by decide) (by decide), (by simp only [fOne_k2, fAnd2, fFailS, fCmp, ebqa1, hs_139, hs_4, etqa0, hs_138, hs_10, esqx, hs_140, hs_11, hx_12, f_13, c_18, (eq_true h_19), c_137, if_true, if_false, bqM_pnm, bqM_par, bqM_dnm, bqM_persons, bqM_dishes, bqM_law, bqM_dogs, TB_.w_pnm, TB_.w_par, TB_.w_dnm, TB_.w_persons, TB_.w_dishes, TB_.w_law, TB_.w_dogs, sqM_sl, sqM_so, SP_.w_sl, SP_.w_so, tqM_by_, tqM_wd, tqM_tk, tqM_pl, tqM_vl, tqM_len, tqM_n, tqM_at_, tqM_token, tqM_place, tqM_value, tqM_fault, tqM_fat, TP_.w_by_, TP_.w_wd, TP_.w_tk, TP_.w_pl, TP_.w_vl, TP_.w_len, TP_.w_n, TP_.w_at_, TP_.w_token, TP_.w_place, TP_.w_value, TP_.w_fault, TP_.w_fat])⟩ dX7_readOne_19
set_option maxRecDepth 100000 in
set_option maxHeartbeats 8000000 in
theorem c_X7_readAll_7 {l : Launch} {D : va_G} {cy : Nat → ClassId} {L : List Nat} {κ ln : Nat → Nat} {R : Nat → Nat → Option Nat} {I : Nat → Nat → Int32} {J : Nat → Nat → Int64} {ow : Nat → Nat × Nat} (W9 : ∀ a ∈ L, Shp L κ ln R ow a) {x : Nat} (hLx : x ∈ L) (hkx : κ x = 7) {a0 : Nat} (hLa0 : a0 ∈ L) (hka0 : κ a0 = 10) {a1 : Nat} (hLa1 : a1 ∈ L) (hka1 : κ a1 = 8) (a2 : Int32) (ra2 : Rg 7 7 a2) (hU : Iv L κ R ow I) : CtI l yX7_readAll cX7_readAll 6 (some .boolean) { frames := 8, cells := 0, slots := 0, locals := 193 } D cy L κ ln R I J [.ref x, .ref a0, .ref a1, .int a2] (fun r I2 J2 => Iv L κ R ow I2 ∧ Fq L κ ow [704, 705, 1007, 1008, 1009, 1011, 1012, 52000, 52100, 52200] I I2 ∧ Fq L κ ow [1010] J J2 ∧ Rg 0 1 r ∧ ((r, TPf R I2 J2 a0, SPf R I2 J2 x) = fAll 2 (TBf R I J a1) (TPf R I J a0) (SPf R I J x))) := by
  refine CtI.of (by decide +kernel) (Nat.le_of_ble_eq_true rfl) ?_
  intro p e s m below meth c B K
  have C := B.1
  have hF : Fq L κ ow [704, 705, 1007, 1008, 1009, 1011, 1012, 52000, 52100, 52200] I I := fq_rf
  have hG : Fq L κ ow [1010] J J := fq_rf
  obtain ⟨b_1, hb_1, hb_1L, hb_1k, hb_1n, hb_1o⟩ := shp_a (W9 a1 hLa1) hka1 0 15 7 rfl (by decide)
  obtain ⟨b_2, hb_2, hb_2L, hb_2k, hb_2n, hb_2o⟩ := shp_a (W9 a1 hLa1) hka1 2 14 7 rfl (by decide)
  obtain ⟨b_3, hb_3, hb_3L, hb_3k, hb_3n, hb_3o⟩ := shp_a (W9 a1 hLa1) hka1 3 15 6 rfl (by decide)
  have ebqa1 : ∀ I J, TBf R I J a1 = TBq I J a1 b_1 b_2 b_3 := fun I J => by simp only [TBf, rr_, Option.getD_some, hb_1, hb_2, hb_3]
  have wbqa1 : bqw_ L κ ow a1 b_1 b_2 b_3 := ⟨⟨hLa1, hb_1L, hb_2L, hb_3L⟩, ⟨(ro_o hka1 (by decide)), (ro_a hb_1k (by decide) hb_1o hka1 rfl), (ro_a hb_2k (by decide) hb_2o hka1 rfl), (ro_a hb_3k (by decide) hb_3o hka1 rfl)⟩⟩
  obtain ⟨s_4, hs_4⟩ : ∃ z, TBq I J a1 b_1 b_2 b_3 = z := ⟨_, rfl⟩
  obtain ⟨b_5, hb_5, hb_5L, hb_5k, hb_5n, hb_5o⟩ := shp_a (W9 a0 hLa0) hka0 0 13 940 rfl (by decide)
  obtain ⟨b_6, hb_6, hb_6L, hb_6k, hb_6n, hb_6o⟩ := shp_a (W9 a0 hLa0) hka0 1 15 28 rfl (by decide)
  obtain ⟨b_7, hb_7, hb_7L, hb_7k, hb_7n, hb_7o⟩ := shp_a (W9 a0 hLa0) hka0 2 14 901 rfl (by decide)
  obtain ⟨b_8, hb_8, hb_8L, hb_8k, hb_8n, hb_8o⟩ := shp_a (W9 a0 hLa0) hka0 3 14 901 rfl (by decide)
  obtain ⟨b_9, hb_9, hb_9L, hb_9k, hb_9n, hb_9o⟩ := shp_a (W9 a0 hLa0) hka0 4 15 901 rfl (by decide)
  have etqa0 : ∀ I J, TPf R I J a0 = TPq I J a0 b_5 b_6 b_7 b_8 b_9 := fun I J => by simp only [TPf, rr_, Option.getD_some, hb_5, hb_6, hb_7, hb_8, hb_9]
  have wtqa0 : tqw_ L κ ow a0 b_5 b_6 b_7 b_8 b_9 := ⟨⟨hLa0, hb_5L, hb_6L, hb_7L, hb_8L, hb_9L⟩, ⟨(ro_o hka0 (by decide)), (ro_a hb_5k (by decide) hb_5o hka0 rfl), (ro_a hb_6k (by decide) hb_6o hka0 rfl), (ro_a hb_7k (by decide) hb_7o hka0 rfl), (ro_a hb_8k (by decide) hb_8o hka0 rfl), (ro_a hb_9k (by decide) hb_9o hka0 rfl)⟩⟩
  obtain ⟨s_10, hs_10⟩ : ∃ z, TPq I J a0 b_5 b_6 b_7 b_8 b_9 = z := ⟨_, rfl⟩
  have esqx : ∀ I J, SPf R I J x = SPq I J x := fun I J => by simp only [SPf, rr_, Option.getD_some]
  have wsqx : sqw_ L κ ow x := ⟨hLx, (ro_o hkx (by decide))⟩
  obtain ⟨s_11, hs_11⟩ : ∃ z, SPq I J x = z := ⟨_, rfl⟩
  refine g_lo (is := [0, 1, 2, 3]) (lo2 := [(0, .ref x), (1, .ref a0), (2, .ref a1), (3, .int a2)]) rfl ?_
  have l_12 : ∀ (n_12 : Nat) (I_12 : Nat → Nat → Int32) (J_13 : Nat → Nat → Int64) (hU_14 : Iv L κ R ow I_12) (hF_15 : Fq L κ ow [704, 705, 1007, 1008, 1009, 1011, 1012, 52000, 52100, 52200] I I_12) (hG_16 : Fq L κ ow [1010] J J_13) (v_17 : Int32) (rv_17 : Rg 0 1 v_17) (v_18 : Int32) (rv_18 : Rg 0 20 v_18) (hq_19 : fLp (fOne 2 (TBq I_12 J_13 a1 b_1 b_2 b_3)) 18 v_18 v_17 (TPq I_12 J_13 a0 b_5 b_6 b_7 b_8 b_9) (SPq I_12 J_13 x) = fAll 2 s_4 s_10 s_11) (hm_20 : 20 < (v_18 : Int32).toInt + (n_12 : Int)), WG p l e { frames := 8, cells := 0, slots := 0, locals := 193 } s m ([.ref x, .ref a0, .ref a1, .int a2] : List Value).toArray below meth c 6 0 0 (MQ below (Qi_ D cy L κ ln R (fun r I2 J2 => Iv L κ R ow I2 ∧ Fq L κ ow [704, 705, 1007, 1008, 1009, 1011, 1012, 52000, 52100, 52200] I I2 ∧ Fq L κ ow [1010] J J2 ∧ Rg 0 1 r ∧ ((r, TPf R I2 J2 a0, SPf R I2 J2 x) = fAll 2 (TBf R I J a1) (TPf R I J a0) (SPf R I J x)))) ([.ref x, .ref a0, .ref a1, .int a2] : List Value).toArray s 0 0 (Al_ L)) D cy (Al_ L) s.heap L κ ln R I_12 J_13 12 [(0, .ref x), (1, .ref a0), (2, .ref a1), (3, .int a2), (4, .int v_17), (5, .int v_18)] [] := by
    intro n_12
    induction n_12 with
    | zero =>
      intro I_12 J_13 hU_14 hF_15 hG_16 v_17 rv_17 v_18 rv_18 hq_19 hm_20
      exact ms_0 rv_18 hm_20
    | succ n_12 ih_12 =>
      intro I_12 J_13 hU_14 hF_15 hG_16 v_17 rv_17 v_18 rv_18 hq_19 hm_20
      obtain ⟨s_21, hs_21⟩ : ∃ z, TBq I_12 J_13 a1 b_1 b_2 b_3 = z := ⟨_, rfl⟩
      obtain ⟨s_22, hs_22⟩ : ∃ z, TPq I_12 J_13 a0 b_5 b_6 b_7 b_8 b_9 = z := ⟨_, rfl⟩
      obtain ⟨s_23, hs_23⟩ : ∃ z, SPq I_12 J_13 x = z := ⟨_, rfl⟩
      simp only [hs_21, hs_22, hs_23] at hq_19
      have hQ_24 := hq_19.symm
      have u_25 := fLp_eq (rd := fOne 2 s_21) (k := 18) (i := v_18) (r := v_17) (t := s_22) (s := s_23) (rv_18)
      refine g_iload C 5 dX7_readAll_12 rfl ?_
      refine g_bipush C (v := 20) dX7_readAll_14 (by decide) ?_
      refine g_icmp_ge C (tgt := 71) dX7_readAll_16 (by decide) (fun h_26 => ?_) (fun h_26 => ?_)
      · skip
        have r_27 := le_r (h_26) rc_20 rv_18
        refine g_iload C 4 dX7_readAll_71 rfl ?_
        exact g_zret (ty := .boolean) (r := v_17) B K rfl (nar_z (rv_17)) ⟨hU_14, hF_15, hG_16, rv_17, (by (try simp only [h_26, if_true, if_false, bqM_pnm, bqM_par, bqM_dnm, bqM_persons, bqM_dishes, bqM_law, bqM_dogs, TB_.w_pnm, TB_.w_par, TB_.w_dnm, TB_.w_persons, TB_.w_dishes, TB_.w_law, TB_.w_dogs, sqM_sl, sqM_so, SP_.w_sl, SP_.w_so, tqM_by_, tqM_wd, tqM_tk, tqM_pl, tqM_vl, tqM_len, tqM_n, tqM_at_, tqM_token, tqM_place, tqM_value, tqM_fault, tqM_fat, TP_.w_by_, TP_.w_wd, TP_.w_tk, TP_.w_pl, TP_.w_vl, TP_.w_len, TP_.w_n, TP_.w_at_, TP_.w_token, TP_.w_place, TP_.w_value, TP_.w_fault, TP_.w_fat] at hQ_24); (try simp only [h_26, if_true, if_false, bqM_pnm, bqM_par, bqM_dnm, bqM_persons, bqM_dishes, bqM_law, bqM_dogs, TB_.w_pnm, TB_.w_par, TB_.w_dnm, TB_.w_persons, TB_.w_dishes, TB_.w_law, TB_.w_dogs, sqM_sl, sqM_so, SP_.w_sl, SP_.w_so, tqM_by_, tqM_wd, tqM_tk, tqM_pl, tqM_vl, tqM_len, tqM_n, tqM_at_, tqM_token, tqM_place, tqM_value, tqM_fault, tqM_fat, TP_.w_by_, TP_.w_wd, TP_.w_tk, TP_.w_pl, TP_.w_vl, TP_.w_len, TP_.w_n, TP_.w_at_, TP_.w_token, TP_.w_place, TP_.w_value, TP_.w_fault, TP_.w_fat] at u_25); simp only [ebqa1, hs_21, hs_4, etqa0, hs_22, hs_10, esqx, hs_23, hs_11, hQ_24, u_25, h_26, if_true, if_false, bqM_pnm, bqM_par, bqM_dnm, bqM_persons, bqM_dishes, bqM_law, bqM_dogs, TB_.w_pnm, TB_.w_par, TB_.w_dnm, TB_.w_persons, TB_.w_dishes, TB_.w_law, TB_.w_dogs, sqM_sl, sqM_so, SP_.w_sl, SP_.w_so, tqM_by_, tqM_wd, tqM_tk, tqM_pl, tqM_vl, tqM_len, tqM_n, tqM_at_, tqM_token, tqM_place, tqM_value, tqM_fault, tqM_fat, TP_.w_by_, TP_.w_wd, TP_.w_tk, TP_.w_pl, TP_.w_vl, TP_.w_len, TP_.w_n, TP_.w_at_, TP_.w_token, TP_.w_place, TP_.w_value, TP_.w_fault, TP_.w_fat])⟩ dX7_readAll_73
      · skip
        have r_28 := lt_l (hi := 19) (nle h_26) rv_18 rc_20 (by decide)
        refine g_iload C 4 dX7_readAll_19 rfl ?_
        refine g_if_eq C (tgt := 71) dX7_readAll_21 (by decide) (fun h_29 => ?_) (fun h_29 => ?_)
        · skip
          have r_30 := (⟨(rv_17).1, (eq_rg (h_29) rc_0).2⟩ : Rg 0 0 v_17)
          refine g_iload C 4 dX7_readAll_71 rfl ?_
          exact g_zret (ty := .boolean) (r := v_17) B K rfl (nar_z (rg_w r_30 (by decide) (by decide))) ⟨hU_14, hF_15, hG_16, rg_w r_30 (by decide) (by decide), (by (try simp only [h_26, (nle h_26), (eq_true h_29), if_true, if_false, bqM_pnm, bqM_par, bqM_dnm, bqM_persons, bqM_dishes, bqM_law, bqM_dogs, TB_.w_pnm, TB_.w_par, TB_.w_dnm, TB_.w_persons, TB_.w_dishes, TB_.w_law, TB_.w_dogs, sqM_sl, sqM_so, SP_.w_sl, SP_.w_so, tqM_by_, tqM_wd, tqM_tk, tqM_pl, tqM_vl, tqM_len, tqM_n, tqM_at_, tqM_token, tqM_place, tqM_value, tqM_fault, tqM_fat, TP_.w_by_, TP_.w_wd, TP_.w_tk, TP_.w_pl, TP_.w_vl, TP_.w_len, TP_.w_n, TP_.w_at_, TP_.w_token, TP_.w_place, TP_.w_value, TP_.w_fault, TP_.w_fat] at hQ_24); (try simp only [h_26, (nle h_26), (eq_true h_29), if_true, if_false, bqM_pnm, bqM_par, bqM_dnm, bqM_persons, bqM_dishes, bqM_law, bqM_dogs, TB_.w_pnm, TB_.w_par, TB_.w_dnm, TB_.w_persons, TB_.w_dishes, TB_.w_law, TB_.w_dogs, sqM_sl, sqM_so, SP_.w_sl, SP_.w_so, tqM_by_, tqM_wd, tqM_tk, tqM_pl, tqM_vl, tqM_len, tqM_n, tqM_at_, tqM_token, tqM_place, tqM_value, tqM_fault, tqM_fat, TP_.w_by_, TP_.w_wd, TP_.w_tk, TP_.w_pl, TP_.w_vl, TP_.w_len, TP_.w_n, TP_.w_at_, TP_.w_token, TP_.w_place, TP_.w_value, TP_.w_fault, TP_.w_fat] at u_25); simp only [ebqa1, hs_21, hs_4, etqa0, hs_22, hs_10, esqx, hs_23, hs_11, hQ_24, u_25, h_26, (nle h_26), (eq_true h_29), if_true, if_false, bqM_pnm, bqM_par, bqM_dnm, bqM_persons, bqM_dishes, bqM_law, bqM_dogs, TB_.w_pnm, TB_.w_par, TB_.w_dnm, TB_.w_persons, TB_.w_dishes, TB_.w_law, TB_.w_dogs, sqM_sl, sqM_so, SP_.w_sl, SP_.w_so, tqM_by_, tqM_wd, tqM_tk, tqM_pl, tqM_vl, tqM_len, tqM_n, tqM_at_, tqM_token, tqM_place, tqM_value, tqM_fault, tqM_fat, TP_.w_by_, TP_.w_wd, TP_.w_tk, TP_.w_pl, TP_.w_vl, TP_.w_len, TP_.w_n, TP_.w_at_, TP_.w_token, TP_.w_place, TP_.w_value, TP_.w_fault, TP_.w_fat])⟩ dX7_readAll_73
        · skip
          have n_31 : ¬ v_17 = 0 := h_29
          have r_32 := ne_lo (lo := 1) n_31 rv_17 rc_0 rfl (by decide)
          refine g_aload_n C 1 dX7_readAll_24 rfl rfl ?_
          obtain ⟨x_33, hx_33, rx_33⟩ := ex_get (I := I_12) (a := a0) (j := 8) (lo := (-2147483648)) (hi := 2147483647) hU_14.1 hLa0 (ro_o hka0 (by decide)) rfl
          have f_34 : s_22.token = x_33 := (congrArg TP_.token hs_22).symm.trans hx_33
          refine g_getI C K hLa0 hka0 f_7_57 (v := x_33) hx_33 dX7_readAll_25 ?_
          refine g_bipush C (v := 18) dX7_readAll_28 (by decide) ?_
          refine g_icmp_ne C (tgt := 71) dX7_readAll_30 (by decide) (fun h_35 => ?_) (fun h_35 => ?_)
          · skip
            have n_36 : ¬ x_33 = 18 := h_35
            refine g_iload C 4 dX7_readAll_71 rfl ?_
            exact g_zret (ty := .boolean) (r := v_17) B K rfl (nar_z (rg_w r_32 (by decide) (by decide))) ⟨hU_14, hF_15, hG_16, rg_w r_32 (by decide) (by decide), (by (try simp only [h_26, (nle h_26), h_29, hx_33, f_34, h_35, if_true, if_false, bqM_pnm, bqM_par, bqM_dnm, bqM_persons, bqM_dishes, bqM_law, bqM_dogs, TB_.w_pnm, TB_.w_par, TB_.w_dnm, TB_.w_persons, TB_.w_dishes, TB_.w_law, TB_.w_dogs, sqM_sl, sqM_so, SP_.w_sl, SP_.w_so, tqM_by_, tqM_wd, tqM_tk, tqM_pl, tqM_vl, tqM_len, tqM_n, tqM_at_, tqM_token, tqM_place, tqM_value, tqM_fault, tqM_fat, TP_.w_by_, TP_.w_wd, TP_.w_tk, TP_.w_pl, TP_.w_vl, TP_.w_len, TP_.w_n, TP_.w_at_, TP_.w_token, TP_.w_place, TP_.w_value, TP_.w_fault, TP_.w_fat] at hQ_24); (try simp only [h_26, (nle h_26), h_29, hx_33, f_34, h_35, if_true, if_false, bqM_pnm, bqM_par, bqM_dnm, bqM_persons, bqM_dishes, bqM_law, bqM_dogs, TB_.w_pnm, TB_.w_par, TB_.w_dnm, TB_.w_persons, TB_.w_dishes, TB_.w_law, TB_.w_dogs, sqM_sl, sqM_so, SP_.w_sl, SP_.w_so, tqM_by_, tqM_wd, tqM_tk, tqM_pl, tqM_vl, tqM_len, tqM_n, tqM_at_, tqM_token, tqM_place, tqM_value, tqM_fault, tqM_fat, TP_.w_by_, TP_.w_wd, TP_.w_tk, TP_.w_pl, TP_.w_vl, TP_.w_len, TP_.w_n, TP_.w_at_, TP_.w_token, TP_.w_place, TP_.w_value, TP_.w_fault, TP_.w_fat] at u_25); simp only [ebqa1, hs_21, hs_4, etqa0, hs_22, hs_10, esqx, hs_23, hs_11, hQ_24, u_25, h_26, (nle h_26), h_29, hx_33, f_34, h_35, if_true, if_false, bqM_pnm, bqM_par, bqM_dnm, bqM_persons, bqM_dishes, bqM_law, bqM_dogs, TB_.w_pnm, TB_.w_par, TB_.w_dnm, TB_.w_persons, TB_.w_dishes, TB_.w_law, TB_.w_dogs, sqM_sl, sqM_so, SP_.w_sl, SP_.w_so, tqM_by_, tqM_wd, tqM_tk, tqM_pl, tqM_vl, tqM_len, tqM_n, tqM_at_, tqM_token, tqM_place, tqM_value, tqM_fault, tqM_fat, TP_.w_by_, TP_.w_wd, TP_.w_tk, TP_.w_pl, TP_.w_vl, TP_.w_len, TP_.w_n, TP_.w_at_, TP_.w_token, TP_.w_place, TP_.w_value, TP_.w_fault, TP_.w_fat])⟩ dX7_readAll_73
          · skip
            have r_37 := (⟨(eq_rg (h_35) rc_18).1, (eq_rg (h_35) rc_18).2⟩ : Rg 18 18 x_33)
            refine g_aload_n C 1 dX7_readAll_33 rfl rfl ?_
            refine g_callVV C K (c_X10_advance W9 hLa0 hka0   hU_14) hLa0 hka0 (by decide) rfl v_7_60 rfl ⟨rfl, rfl⟩ ⟨Nat.le_of_ble_eq_true rfl, Nat.le_of_ble_eq_true rfl⟩ (Nat.le_of_ble_eq_true rfl) ⟨Nat.le_of_ble_eq_true rfl, Nat.le_of_ble_eq_true rfl⟩ dX7_readAll_34 rfl (st := []) (fun I_39 J_40 h_41 => ?_)
            obtain ⟨hUI_39, hFI_39, hGJ_40, fx_38⟩ := h_41
            have hF_42 := fq_tr hF_15 hFI_39 (by decide)
            have hG_43 := fq_tr hG_16 hGJ_40 (by decide)
            obtain ⟨s_45, hs_45⟩ : ∃ z, TPq I_39 J_40 a0 b_5 b_6 b_7 b_8 b_9 = z := ⟨_, rfl⟩
            have c_44 : fAdvance (s_22) = s_45 := by have q := fx_38; simp only [etqa0, hs_22, hs_45] at q; exact q.symm
            have hs_46 : TBq I_39 J_40 a1 b_1 b_2 b_3 = s_21 := (bq_fq wbqa1 hFI_39 hGJ_40 (by decide) (by decide)).trans hs_21
            have hs_47 : SPq I_39 J_40 x = s_23 := (sq_fq wsqx hFI_39 hGJ_40 (by decide) (by decide)).trans hs_23
            refine g_aload_n C 0 dX7_readAll_37 rfl rfl ?_
            refine g_aload_n C 1 dX7_readAll_38 rfl rfl ?_
            refine g_aload_n C 2 dX7_readAll_39 rfl rfl ?_
            refine g_iload_n C 3 dX7_readAll_40 rfl rfl ?_
            refine g_callVI C K (c_X7_readOne_7 W9 hLx hkx hLa0 hka0 hLa1 hka1 a2 (ra2) hUI_39) hLx hkx (by decide) rfl v_7_67 rfl ⟨rfl, rfl⟩ ⟨Nat.le_of_ble_eq_true rfl, Nat.le_of_ble_eq_true rfl⟩ (Nat.le_of_ble_eq_true rfl) ⟨Nat.le_of_ble_eq_true rfl, Nat.le_of_ble_eq_true rfl⟩ dX7_readAll_41 rfl (st := []) (fun x_48 I_49 J_50 h_51 => ?_)
            obtain ⟨hUI_49, hFI_49, hGJ_50, rx_48, fx_48⟩ := h_51
            have hF_52 := fq_tr hF_42 hFI_49 (by decide)
            have hG_53 := fq_tr hG_43 hGJ_50 (by decide)
            obtain ⟨s_55, hs_55⟩ : ∃ z, TPq I_49 J_50 a0 b_5 b_6 b_7 b_8 b_9 = z := ⟨_, rfl⟩
            obtain ⟨s_56, hs_56⟩ : ∃ z, SPq I_49 J_50 x = z := ⟨_, rfl⟩
            have c_54 : fOne 2 (s_21) (s_45) (s_23) = (x_48, s_55, s_56) := by have q := fx_48; simp only [ebqa1, etqa0, esqx, hs_46, hs_45, hs_47, hs_55, hs_56] at q; exact q.symm
            have hs_57 : TBq I_49 J_50 a1 b_1 b_2 b_3 = s_21 := (bq_fq wbqa1 hFI_49 hGJ_50 (by decide) (by decide)).trans hs_46
            refine g_if_eq C (tgt := 62) dX7_readAll_44 (by decide) (fun h_58 => ?_) (fun h_58 => ?_)
            · skip
              have r_59 := (⟨(rx_48).1, (eq_rg (h_58) rc_0).2⟩ : Rg 0 0 x_48)
              refine g_iconst C (v := 0) dX7_readAll_62 (by decide) ?_
              refine g_istore C dX7_readAll_63 (by decide) (lo2 := [(4, .int 0), (0, .ref x), (1, .ref a0), (2, .ref a1), (3, .int a2), (5, .int v_18)]) rfl ?_
              obtain ⟨x_60, hx_60, rx_60, tx_60⟩ := ex_add (y := 1) 1 20 r_28 rc_1 (by decide) (by decide) (by decide) (by decide)
              refine g_iinc C dX7_readAll_65 (k := 5) (v := x_60) rfl hx_60 (by decide) (lo2 := [(5, .int x_60), (4, .int 0), (0, .ref x), (1, .ref a0), (2, .ref a1), (3, .int a2)]) rfl ?_
              refine g_goto C (tgt := 12) dX7_readAll_68 (by decide) ?_
              refine g_lo (is := [2, 3, 4, 5, 1, 0]) (lo2 := [(0, .ref x), (1, .ref a0), (2, .ref a1), (3, .int a2), (4, .int 0), (5, .int x_60)]) rfl ?_
              exact ih_12 I_49 J_50 hUI_49 hF_52 hG_53 0 (rg_w rc_0 (by decide) (by decide)) x_60 (rg_w rx_60 (by decide) (by decide)) (by (try simp only [h_26, (nle h_26), h_29, hx_33, f_34, (eq_true h_35), c_44, c_54, (eq_true h_58), hx_60, if_true, if_false, bqM_pnm, bqM_par, bqM_dnm, bqM_persons, bqM_dishes, bqM_law, bqM_dogs, TB_.w_pnm, TB_.w_par, TB_.w_dnm, TB_.w_persons, TB_.w_dishes, TB_.w_law, TB_.w_dogs, sqM_sl, sqM_so, SP_.w_sl, SP_.w_so, tqM_by_, tqM_wd, tqM_tk, tqM_pl, tqM_vl, tqM_len, tqM_n, tqM_at_, tqM_token, tqM_place, tqM_value, tqM_fault, tqM_fat, TP_.w_by_, TP_.w_wd, TP_.w_tk, TP_.w_pl, TP_.w_vl, TP_.w_len, TP_.w_n, TP_.w_at_, TP_.w_token, TP_.w_place, TP_.w_value, TP_.w_fault, TP_.w_fat] at hQ_24); (try simp only [h_26, (nle h_26), h_29, hx_33, f_34, (eq_true h_35), c_44, c_54, (eq_true h_58), hx_60, if_true, if_false, bqM_pnm, bqM_par, bqM_dnm, bqM_persons, bqM_dishes, bqM_law, bqM_dogs, TB_.w_pnm, TB_.w_par, TB_.w_dnm, TB_.w_persons, TB_.w_dishes, TB_.w_law, TB_.w_dogs, sqM_sl, sqM_so, SP_.w_sl, SP_.w_so, tqM_by_, tqM_wd, tqM_tk, tqM_pl, tqM_vl, tqM_len, tqM_n, tqM_at_, tqM_token, tqM_place, tqM_value, tqM_fault, tqM_fat, TP_.w_by_, TP_.w_wd, TP_.w_tk, TP_.w_pl, TP_.w_vl, TP_.w_len, TP_.w_n, TP_.w_at_, TP_.w_token, TP_.w_place, TP_.w_value, TP_.w_fault, TP_.w_fat] at u_25); simp only [ebqa1, hs_57, hs_4, etqa0, hs_55, hs_10, esqx, hs_56, hs_11, hQ_24, u_25, h_26, (nle h_26), h_29, hx_33, f_34, (eq_true h_35), c_44, c_54, (eq_true h_58), hx_60, if_true, if_false, bqM_pnm, bqM_par, bqM_dnm, bqM_persons, bqM_dishes, bqM_law, bqM_dogs, TB_.w_pnm, TB_.w_par, TB_.w_dnm, TB_.w_persons, TB_.w_dishes, TB_.w_law, TB_.w_dogs, sqM_sl, sqM_so, SP_.w_sl, SP_.w_so, tqM_by_, tqM_wd, tqM_tk, tqM_pl, tqM_vl, tqM_len, tqM_n, tqM_at_, tqM_token, tqM_place, tqM_value, tqM_fault, tqM_fat, TP_.w_by_, TP_.w_wd, TP_.w_tk, TP_.w_pl, TP_.w_vl, TP_.w_len, TP_.w_n, TP_.w_at_, TP_.w_token, TP_.w_place, TP_.w_value, TP_.w_fault, TP_.w_fat]) (ms_1 hm_20 (ti_k tx_60 rc_1) (by decide))
            · skip
              have n_61 : ¬ x_48 = 0 := h_58
              have r_62 := ne_lo (lo := 1) n_61 rx_48 rc_0 rfl (by decide)
              refine g_aload_n C 0 dX7_readAll_47 rfl rfl ?_
              refine g_bipush C (v := 18) dX7_readAll_48 (by decide) ?_
              refine g_iconst C (v := 0) dX7_readAll_50 (by decide) ?_
              refine g_iconst C (v := 0) dX7_readAll_51 (by decide) ?_
              refine g_callVI C K (c_X7_addStep W9 hLx hkx 18 0 0 (rg_w rc_0 (by decide) (by decide)) hUI_49  (fun q => absurd q (by decide))) hLx hkx (by decide) rfl v_7_63 rfl ⟨rfl, rfl⟩ ⟨Nat.le_of_ble_eq_true rfl, Nat.le_of_ble_eq_true rfl⟩ (Nat.le_of_ble_eq_true rfl) ⟨Nat.le_of_ble_eq_true rfl, Nat.le_of_ble_eq_true rfl⟩ dX7_readAll_52 rfl (st := []) (fun x_63 I_64 J_65 h_66 => ?_)
              obtain ⟨hUI_64, hFI_64, hGJ_65, rx_63, fx_63⟩ := h_66
              have hF_67 := fq_tr hF_52 hFI_64 (by decide)
              have hG_68 := fq_tr hG_53 hGJ_65 (by decide)
              obtain ⟨s_70, hs_70⟩ : ∃ z, SPq I_64 J_65 x = z := ⟨_, rfl⟩
              have c_69 : fAddStep (s_56) = (x_63, s_70) := by have q := fx_63; simp only [esqx, hs_56, hs_70] at q; exact q.symm
              have hs_71 : TBq I_64 J_65 a1 b_1 b_2 b_3 = s_21 := (bq_fq wbqa1 hFI_64 hGJ_65 (by decide) (by decide)).trans hs_57
              have hs_72 : TPq I_64 J_65 a0 b_5 b_6 b_7 b_8 b_9 = s_55 := (tq_fq wtqa0 hFI_64 hGJ_65 (by decide) (by decide)).trans hs_55
              refine g_if_eq C (tgt := 62) dX7_readAll_55 (by decide) (fun h_73 => ?_) (fun h_73 => ?_)
              · skip
                have r_74 := (⟨(rx_63).1, (eq_rg (h_73) rc_0).2⟩ : Rg 0 0 x_63)
                refine g_iconst C (v := 0) dX7_readAll_62 (by decide) ?_
                refine g_istore C dX7_readAll_63 (by decide) (lo2 := [(4, .int 0), (0, .ref x), (1, .ref a0), (2, .ref a1), (3, .int a2), (5, .int v_18)]) rfl ?_
                obtain ⟨x_75, hx_75, rx_75, tx_75⟩ := ex_add (y := 1) 1 20 r_28 rc_1 (by decide) (by decide) (by decide) (by decide)
                refine g_iinc C dX7_readAll_65 (k := 5) (v := x_75) rfl hx_75 (by decide) (lo2 := [(5, .int x_75), (4, .int 0), (0, .ref x), (1, .ref a0), (2, .ref a1), (3, .int a2)]) rfl ?_
                refine g_goto C (tgt := 12) dX7_readAll_68 (by decide) ?_
                refine g_lo (is := [2, 3, 4, 5, 1, 0]) (lo2 := [(0, .ref x), (1, .ref a0), (2, .ref a1), (3, .int a2), (4, .int 0), (5, .int x_75)]) rfl ?_
                exact ih_12 I_64 J_65 hUI_64 hF_67 hG_68 0 (rg_w rc_0 (by decide) (by decide)) x_75 (rg_w rx_75 (by decide) (by decide)) (by (try simp only [h_26, (nle h_26), h_29, hx_33, f_34, (eq_true h_35), c_44, c_54, h_58, c_69, (eq_true h_73), hx_75, if_true, if_false, bqM_pnm, bqM_par, bqM_dnm, bqM_persons, bqM_dishes, bqM_law, bqM_dogs, TB_.w_pnm, TB_.w_par, TB_.w_dnm, TB_.w_persons, TB_.w_dishes, TB_.w_law, TB_.w_dogs, sqM_sl, sqM_so, SP_.w_sl, SP_.w_so, tqM_by_, tqM_wd, tqM_tk, tqM_pl, tqM_vl, tqM_len, tqM_n, tqM_at_, tqM_token, tqM_place, tqM_value, tqM_fault, tqM_fat, TP_.w_by_, TP_.w_wd, TP_.w_tk, TP_.w_pl, TP_.w_vl, TP_.w_len, TP_.w_n, TP_.w_at_, TP_.w_token, TP_.w_place, TP_.w_value, TP_.w_fault, TP_.w_fat] at hQ_24); (try simp only [h_26, (nle h_26), h_29, hx_33, f_34, (eq_true h_35), c_44, c_54, h_58, c_69, (eq_true h_73), hx_75, if_true, if_false, bqM_pnm, bqM_par, bqM_dnm, bqM_persons, bqM_dishes, bqM_law, bqM_dogs, TB_.w_pnm, TB_.w_par, TB_.w_dnm, TB_.w_persons, TB_.w_dishes, TB_.w_law, TB_.w_dogs, sqM_sl, sqM_so, SP_.w_sl, SP_.w_so, tqM_by_, tqM_wd, tqM_tk, tqM_pl, tqM_vl, tqM_len, tqM_n, tqM_at_, tqM_token, tqM_place, tqM_value, tqM_fault, tqM_fat, TP_.w_by_, TP_.w_wd, TP_.w_tk, TP_.w_pl, TP_.w_vl, TP_.w_len, TP_.w_n, TP_.w_at_, TP_.w_token, TP_.w_place, TP_.w_value, TP_.w_fault, TP_.w_fat] at u_25); simp only [ebqa1, hs_71, hs_4, etqa0, hs_72, hs_10, esqx, hs_70, hs_11, hQ_24, u_25, h_26, (nle h_26), h_29, hx_33, f_34, (eq_true h_35), c_44, c_54, h_58, c_69, (eq_true h_73), hx_75, if_true, if_false, bqM_pnm, bqM_par, bqM_dnm, bqM_persons, bqM_dishes, bqM_law, bqM_dogs, TB_.w_pnm, TB_.w_par, TB_.w_dnm, TB_.w_persons, TB_.w_dishes, TB_.w_law, TB_.w_dogs, sqM_sl, sqM_so, SP_.w_sl, SP_.w_so, tqM_by_, tqM_wd, tqM_tk, tqM_pl, tqM_vl, tqM_len, tqM_n, tqM_at_, tqM_token, tqM_place, tqM_value, tqM_fault, tqM_fat, TP_.w_by_, TP_.w_wd, TP_.w_tk, TP_.w_pl, TP_.w_vl, TP_.w_len, TP_.w_n, TP_.w_at_, TP_.w_token, TP_.w_place, TP_.w_value, TP_.w_fault, TP_.w_fat]) (ms_1 hm_20 (ti_k tx_75 rc_1) (by decide))
              · skip
                have n_76 : ¬ x_63 = 0 := h_73
                have r_77 := ne_lo (lo := 1) n_76 rx_63 rc_0 rfl (by decide)
                refine g_iconst C (v := 1) dX7_readAll_58 (by decide) ?_
                refine g_goto C (tgt := 63) dX7_readAll_59 (by decide) ?_
                refine g_istore C dX7_readAll_63 (by decide) (lo2 := [(4, .int 1), (0, .ref x), (1, .ref a0), (2, .ref a1), (3, .int a2), (5, .int v_18)]) rfl ?_
                obtain ⟨x_78, hx_78, rx_78, tx_78⟩ := ex_add (y := 1) 1 20 r_28 rc_1 (by decide) (by decide) (by decide) (by decide)
                refine g_iinc C dX7_readAll_65 (k := 5) (v := x_78) rfl hx_78 (by decide) (lo2 := [(5, .int x_78), (4, .int 1), (0, .ref x), (1, .ref a0), (2, .ref a1), (3, .int a2)]) rfl ?_
                refine g_goto C (tgt := 12) dX7_readAll_68 (by decide) ?_
                refine g_lo (is := [2, 3, 4, 5, 1, 0]) (lo2 := [(0, .ref x), (1, .ref a0), (2, .ref a1), (3, .int a2), (4, .int 1), (5, .int x_78)]) rfl ?_
                exact ih_12 I_64 J_65 hUI_64 hF_67 hG_68 1 (rg_w rc_1 (by decide) (by decide)) x_78 (rg_w rx_78 (by decide) (by decide)) (by (try simp only [h_26, (nle h_26), h_29, hx_33, f_34, (eq_true h_35), c_44, c_54, h_58, c_69, h_73, hx_78, if_true, if_false, bqM_pnm, bqM_par, bqM_dnm, bqM_persons, bqM_dishes, bqM_law, bqM_dogs, TB_.w_pnm, TB_.w_par, TB_.w_dnm, TB_.w_persons, TB_.w_dishes, TB_.w_law, TB_.w_dogs, sqM_sl, sqM_so, SP_.w_sl, SP_.w_so, tqM_by_, tqM_wd, tqM_tk, tqM_pl, tqM_vl, tqM_len, tqM_n, tqM_at_, tqM_token, tqM_place, tqM_value, tqM_fault, tqM_fat, TP_.w_by_, TP_.w_wd, TP_.w_tk, TP_.w_pl, TP_.w_vl, TP_.w_len, TP_.w_n, TP_.w_at_, TP_.w_token, TP_.w_place, TP_.w_value, TP_.w_fault, TP_.w_fat] at hQ_24); (try simp only [h_26, (nle h_26), h_29, hx_33, f_34, (eq_true h_35), c_44, c_54, h_58, c_69, h_73, hx_78, if_true, if_false, bqM_pnm, bqM_par, bqM_dnm, bqM_persons, bqM_dishes, bqM_law, bqM_dogs, TB_.w_pnm, TB_.w_par, TB_.w_dnm, TB_.w_persons, TB_.w_dishes, TB_.w_law, TB_.w_dogs, sqM_sl, sqM_so, SP_.w_sl, SP_.w_so, tqM_by_, tqM_wd, tqM_tk, tqM_pl, tqM_vl, tqM_len, tqM_n, tqM_at_, tqM_token, tqM_place, tqM_value, tqM_fault, tqM_fat, TP_.w_by_, TP_.w_wd, TP_.w_tk, TP_.w_pl, TP_.w_vl, TP_.w_len, TP_.w_n, TP_.w_at_, TP_.w_token, TP_.w_place, TP_.w_value, TP_.w_fault, TP_.w_fat] at u_25); simp only [ebqa1, hs_71, hs_4, etqa0, hs_72, hs_10, esqx, hs_70, hs_11, hQ_24, u_25, h_26, (nle h_26), h_29, hx_33, f_34, (eq_true h_35), c_44, c_54, h_58, c_69, h_73, hx_78, if_true, if_false, bqM_pnm, bqM_par, bqM_dnm, bqM_persons, bqM_dishes, bqM_law, bqM_dogs, TB_.w_pnm, TB_.w_par, TB_.w_dnm, TB_.w_persons, TB_.w_dishes, TB_.w_law, TB_.w_dogs, sqM_sl, sqM_so, SP_.w_sl, SP_.w_so, tqM_by_, tqM_wd, tqM_tk, tqM_pl, tqM_vl, tqM_len, tqM_n, tqM_at_, tqM_token, tqM_place, tqM_value, tqM_fault, tqM_fat, TP_.w_by_, TP_.w_wd, TP_.w_tk, TP_.w_pl, TP_.w_vl, TP_.w_len, TP_.w_n, TP_.w_at_, TP_.w_token, TP_.w_place, TP_.w_value, TP_.w_fault, TP_.w_fat]) (ms_1 hm_20 (ti_k tx_78 rc_1) (by decide))
  refine g_aload_n C 0 dX7_readAll_0 rfl rfl ?_
  refine g_aload_n C 1 dX7_readAll_1 rfl rfl ?_
  refine g_aload_n C 2 dX7_readAll_2 rfl rfl ?_
  refine g_iload_n C 3 dX7_readAll_3 rfl rfl ?_
  refine g_callVI C K (c_X7_readOne_7 W9 hLx hkx hLa0 hka0 hLa1 hka1 a2 (ra2) hU) hLx hkx (by decide) rfl v_7_67 rfl ⟨rfl, rfl⟩ ⟨Nat.le_of_ble_eq_true rfl, Nat.le_of_ble_eq_true rfl⟩ (Nat.le_of_ble_eq_true rfl) ⟨Nat.le_of_ble_eq_true rfl, Nat.le_of_ble_eq_true rfl⟩ dX7_readAll_4 rfl (st := []) (fun x_79 I_80 J_81 h_82 => ?_)
  obtain ⟨hUI_80, hFI_80, hGJ_81, rx_79, fx_79⟩ := h_82
  have hF_83 := fq_tr hF hFI_80 (by decide)
  have hG_84 := fq_tr hG hGJ_81 (by decide)
  obtain ⟨s_86, hs_86⟩ : ∃ z, TPq I_80 J_81 a0 b_5 b_6 b_7 b_8 b_9 = z := ⟨_, rfl⟩
  obtain ⟨s_87, hs_87⟩ : ∃ z, SPq I_80 J_81 x = z := ⟨_, rfl⟩
  have c_85 : fOne 2 (s_4) (s_10) (s_11) = (x_79, s_86, s_87) := by have q := fx_79; simp only [ebqa1, etqa0, esqx, hs_4, hs_10, hs_11, hs_86, hs_87] at q; exact q.symm
  have hs_88 : TBq I_80 J_81 a1 b_1 b_2 b_3 = s_4 := (bq_fq wbqa1 hFI_80 hGJ_81 (by decide) (by decide)).trans hs_4
  refine g_istore C dX7_readAll_7 (by decide) (lo2 := [(4, .int x_79), (0, .ref x), (1, .ref a0), (2, .ref a1), (3, .int a2)]) rfl ?_
  refine g_iconst C (v := 0) dX7_readAll_9 (by decide) ?_
  refine g_istore C dX7_readAll_10 (by decide) (lo2 := [(5, .int 0), (4, .int x_79), (0, .ref x), (1, .ref a0), (2, .ref a1), (3, .int a2)]) rfl ?_
  refine g_lo (is := [2, 3, 4, 5, 1, 0]) (lo2 := [(0, .ref x), (1, .ref a0), (2, .ref a1), (3, .int a2), (4, .int x_79), (5, .int 0)]) rfl ?_
  exact l_12 21 I_80 J_81 hUI_80 hF_83 hG_84 x_79 (rx_79) 0 (rg_w rc_0 (by decide) (by decide)) (by simp only [fAll, ebqa1, hs_88, hs_4, etqa0, hs_86, hs_10, esqx, hs_87, hs_11, c_85, if_true, if_false, bqM_pnm, bqM_par, bqM_dnm, bqM_persons, bqM_dishes, bqM_law, bqM_dogs, TB_.w_pnm, TB_.w_par, TB_.w_dnm, TB_.w_persons, TB_.w_dishes, TB_.w_law, TB_.w_dogs, sqM_sl, sqM_so, SP_.w_sl, SP_.w_so, tqM_by_, tqM_wd, tqM_tk, tqM_pl, tqM_vl, tqM_len, tqM_n, tqM_at_, tqM_token, tqM_place, tqM_value, tqM_fault, tqM_fat, TP_.w_by_, TP_.w_wd, TP_.w_tk, TP_.w_pl, TP_.w_vl, TP_.w_len, TP_.w_n, TP_.w_at_, TP_.w_token, TP_.w_place, TP_.w_value, TP_.w_fault, TP_.w_fat]) (ms_s (a := 0) (b := 20) (N := 21) (rg_w rc_0 (by decide) (by decide)) (by decide))
set_option maxRecDepth 100000 in
set_option maxHeartbeats 8000000 in
theorem c_X7_readCond_7 {l : Launch} {D : va_G} {cy : Nat → ClassId} {L : List Nat} {κ ln : Nat → Nat} {R : Nat → Nat → Option Nat} {I : Nat → Nat → Int32} {J : Nat → Nat → Int64} {ow : Nat → Nat × Nat} (W9 : ∀ a ∈ L, Shp L κ ln R ow a) {x : Nat} (hLx : x ∈ L) (hkx : κ x = 7) {a0 : Nat} (hLa0 : a0 ∈ L) (hka0 : κ a0 = 10) {a1 : Nat} (hLa1 : a1 ∈ L) (hka1 : κ a1 = 8) (a2 : Int32) (ra2 : Rg 7 7 a2) (hU : Iv L κ R ow I) : CtI l yX7_readCond cX7_readCond 6 (some .boolean) { frames := 9, cells := 0, slots := 0, locals := 218 } D cy L κ ln R I J [.ref x, .ref a0, .ref a1, .int a2] (fun r I2 J2 => Iv L κ R ow I2 ∧ Fq L κ ow [704, 705, 1007, 1008, 1009, 1011, 1012, 52000, 52100, 52200] I I2 ∧ Fq L κ ow [1010] J J2 ∧ Rg 0 1 r ∧ ((r, TPf R I2 J2 a0, SPf R I2 J2 x) = fCond 2 (TBf R I J a1) (TPf R I J a0) (SPf R I J x))) := by
  refine CtI.of (by decide +kernel) (Nat.le_of_ble_eq_true rfl) ?_
  intro p e s m below meth c B K
  have C := B.1
  have hF : Fq L κ ow [704, 705, 1007, 1008, 1009, 1011, 1012, 52000, 52100, 52200] I I := fq_rf
  have hG : Fq L κ ow [1010] J J := fq_rf
  obtain ⟨b_1, hb_1, hb_1L, hb_1k, hb_1n, hb_1o⟩ := shp_a (W9 a1 hLa1) hka1 0 15 7 rfl (by decide)
  obtain ⟨b_2, hb_2, hb_2L, hb_2k, hb_2n, hb_2o⟩ := shp_a (W9 a1 hLa1) hka1 2 14 7 rfl (by decide)
  obtain ⟨b_3, hb_3, hb_3L, hb_3k, hb_3n, hb_3o⟩ := shp_a (W9 a1 hLa1) hka1 3 15 6 rfl (by decide)
  have ebqa1 : ∀ I J, TBf R I J a1 = TBq I J a1 b_1 b_2 b_3 := fun I J => by simp only [TBf, rr_, Option.getD_some, hb_1, hb_2, hb_3]
  have wbqa1 : bqw_ L κ ow a1 b_1 b_2 b_3 := ⟨⟨hLa1, hb_1L, hb_2L, hb_3L⟩, ⟨(ro_o hka1 (by decide)), (ro_a hb_1k (by decide) hb_1o hka1 rfl), (ro_a hb_2k (by decide) hb_2o hka1 rfl), (ro_a hb_3k (by decide) hb_3o hka1 rfl)⟩⟩
  obtain ⟨s_4, hs_4⟩ : ∃ z, TBq I J a1 b_1 b_2 b_3 = z := ⟨_, rfl⟩
  obtain ⟨b_5, hb_5, hb_5L, hb_5k, hb_5n, hb_5o⟩ := shp_a (W9 a0 hLa0) hka0 0 13 940 rfl (by decide)
  obtain ⟨b_6, hb_6, hb_6L, hb_6k, hb_6n, hb_6o⟩ := shp_a (W9 a0 hLa0) hka0 1 15 28 rfl (by decide)
  obtain ⟨b_7, hb_7, hb_7L, hb_7k, hb_7n, hb_7o⟩ := shp_a (W9 a0 hLa0) hka0 2 14 901 rfl (by decide)
  obtain ⟨b_8, hb_8, hb_8L, hb_8k, hb_8n, hb_8o⟩ := shp_a (W9 a0 hLa0) hka0 3 14 901 rfl (by decide)
  obtain ⟨b_9, hb_9, hb_9L, hb_9k, hb_9n, hb_9o⟩ := shp_a (W9 a0 hLa0) hka0 4 15 901 rfl (by decide)
  have etqa0 : ∀ I J, TPf R I J a0 = TPq I J a0 b_5 b_6 b_7 b_8 b_9 := fun I J => by simp only [TPf, rr_, Option.getD_some, hb_5, hb_6, hb_7, hb_8, hb_9]
  have wtqa0 : tqw_ L κ ow a0 b_5 b_6 b_7 b_8 b_9 := ⟨⟨hLa0, hb_5L, hb_6L, hb_7L, hb_8L, hb_9L⟩, ⟨(ro_o hka0 (by decide)), (ro_a hb_5k (by decide) hb_5o hka0 rfl), (ro_a hb_6k (by decide) hb_6o hka0 rfl), (ro_a hb_7k (by decide) hb_7o hka0 rfl), (ro_a hb_8k (by decide) hb_8o hka0 rfl), (ro_a hb_9k (by decide) hb_9o hka0 rfl)⟩⟩
  obtain ⟨s_10, hs_10⟩ : ∃ z, TPq I J a0 b_5 b_6 b_7 b_8 b_9 = z := ⟨_, rfl⟩
  have esqx : ∀ I J, SPf R I J x = SPq I J x := fun I J => by simp only [SPf, rr_, Option.getD_some]
  have wsqx : sqw_ L κ ow x := ⟨hLx, (ro_o hkx (by decide))⟩
  obtain ⟨s_11, hs_11⟩ : ∃ z, SPq I J x = z := ⟨_, rfl⟩
  refine g_lo (is := [0, 1, 2, 3]) (lo2 := [(0, .ref x), (1, .ref a0), (2, .ref a1), (3, .int a2)]) rfl ?_
  have l_12 : ∀ (n_12 : Nat) (I_12 : Nat → Nat → Int32) (J_13 : Nat → Nat → Int64) (hU_14 : Iv L κ R ow I_12) (hF_15 : Fq L κ ow [704, 705, 1007, 1008, 1009, 1011, 1012, 52000, 52100, 52200] I I_12) (hG_16 : Fq L κ ow [1010] J J_13) (v_17 : Int32) (rv_17 : Rg 0 1 v_17) (v_18 : Int32) (rv_18 : Rg 0 20 v_18) (hq_19 : fLp (fAll 2 (TBq I_12 J_13 a1 b_1 b_2 b_3)) 17 v_18 v_17 (TPq I_12 J_13 a0 b_5 b_6 b_7 b_8 b_9) (SPq I_12 J_13 x) = fCond 2 s_4 s_10 s_11) (hm_20 : 20 < (v_18 : Int32).toInt + (n_12 : Int)), WG p l e { frames := 9, cells := 0, slots := 0, locals := 218 } s m ([.ref x, .ref a0, .ref a1, .int a2] : List Value).toArray below meth c 6 0 0 (MQ below (Qi_ D cy L κ ln R (fun r I2 J2 => Iv L κ R ow I2 ∧ Fq L κ ow [704, 705, 1007, 1008, 1009, 1011, 1012, 52000, 52100, 52200] I I2 ∧ Fq L κ ow [1010] J J2 ∧ Rg 0 1 r ∧ ((r, TPf R I2 J2 a0, SPf R I2 J2 x) = fCond 2 (TBf R I J a1) (TPf R I J a0) (SPf R I J x)))) ([.ref x, .ref a0, .ref a1, .int a2] : List Value).toArray s 0 0 (Al_ L)) D cy (Al_ L) s.heap L κ ln R I_12 J_13 12 [(0, .ref x), (1, .ref a0), (2, .ref a1), (3, .int a2), (4, .int v_17), (5, .int v_18)] [] := by
    intro n_12
    induction n_12 with
    | zero =>
      intro I_12 J_13 hU_14 hF_15 hG_16 v_17 rv_17 v_18 rv_18 hq_19 hm_20
      exact ms_0 rv_18 hm_20
    | succ n_12 ih_12 =>
      intro I_12 J_13 hU_14 hF_15 hG_16 v_17 rv_17 v_18 rv_18 hq_19 hm_20
      obtain ⟨s_21, hs_21⟩ : ∃ z, TBq I_12 J_13 a1 b_1 b_2 b_3 = z := ⟨_, rfl⟩
      obtain ⟨s_22, hs_22⟩ : ∃ z, TPq I_12 J_13 a0 b_5 b_6 b_7 b_8 b_9 = z := ⟨_, rfl⟩
      obtain ⟨s_23, hs_23⟩ : ∃ z, SPq I_12 J_13 x = z := ⟨_, rfl⟩
      simp only [hs_21, hs_22, hs_23] at hq_19
      have hQ_24 := hq_19.symm
      have u_25 := fLp_eq (rd := fAll 2 s_21) (k := 17) (i := v_18) (r := v_17) (t := s_22) (s := s_23) (rv_18)
      refine g_iload C 5 dX7_readCond_12 rfl ?_
      refine g_bipush C (v := 20) dX7_readCond_14 (by decide) ?_
      refine g_icmp_ge C (tgt := 71) dX7_readCond_16 (by decide) (fun h_26 => ?_) (fun h_26 => ?_)
      · skip
        have r_27 := le_r (h_26) rc_20 rv_18
        refine g_iload C 4 dX7_readCond_71 rfl ?_
        exact g_zret (ty := .boolean) (r := v_17) B K rfl (nar_z (rv_17)) ⟨hU_14, hF_15, hG_16, rv_17, (by (try simp only [h_26, if_true, if_false, bqM_pnm, bqM_par, bqM_dnm, bqM_persons, bqM_dishes, bqM_law, bqM_dogs, TB_.w_pnm, TB_.w_par, TB_.w_dnm, TB_.w_persons, TB_.w_dishes, TB_.w_law, TB_.w_dogs, sqM_sl, sqM_so, SP_.w_sl, SP_.w_so, tqM_by_, tqM_wd, tqM_tk, tqM_pl, tqM_vl, tqM_len, tqM_n, tqM_at_, tqM_token, tqM_place, tqM_value, tqM_fault, tqM_fat, TP_.w_by_, TP_.w_wd, TP_.w_tk, TP_.w_pl, TP_.w_vl, TP_.w_len, TP_.w_n, TP_.w_at_, TP_.w_token, TP_.w_place, TP_.w_value, TP_.w_fault, TP_.w_fat] at hQ_24); (try simp only [h_26, if_true, if_false, bqM_pnm, bqM_par, bqM_dnm, bqM_persons, bqM_dishes, bqM_law, bqM_dogs, TB_.w_pnm, TB_.w_par, TB_.w_dnm, TB_.w_persons, TB_.w_dishes, TB_.w_law, TB_.w_dogs, sqM_sl, sqM_so, SP_.w_sl, SP_.w_so, tqM_by_, tqM_wd, tqM_tk, tqM_pl, tqM_vl, tqM_len, tqM_n, tqM_at_, tqM_token, tqM_place, tqM_value, tqM_fault, tqM_fat, TP_.w_by_, TP_.w_wd, TP_.w_tk, TP_.w_pl, TP_.w_vl, TP_.w_len, TP_.w_n, TP_.w_at_, TP_.w_token, TP_.w_place, TP_.w_value, TP_.w_fault, TP_.w_fat] at u_25); simp only [ebqa1, hs_21, hs_4, etqa0, hs_22, hs_10, esqx, hs_23, hs_11, hQ_24, u_25, h_26, if_true, if_false, bqM_pnm, bqM_par, bqM_dnm, bqM_persons, bqM_dishes, bqM_law, bqM_dogs, TB_.w_pnm, TB_.w_par, TB_.w_dnm, TB_.w_persons, TB_.w_dishes, TB_.w_law, TB_.w_dogs, sqM_sl, sqM_so, SP_.w_sl, SP_.w_so, tqM_by_, tqM_wd, tqM_tk, tqM_pl, tqM_vl, tqM_len, tqM_n, tqM_at_, tqM_token, tqM_place, tqM_value, tqM_fault, tqM_fat, TP_.w_by_, TP_.w_wd, TP_.w_tk, TP_.w_pl, TP_.w_vl, TP_.w_len, TP_.w_n, TP_.w_at_, TP_.w_token, TP_.w_place, TP_.w_value, TP_.w_fault, TP_.w_fat])⟩ dX7_readCond_73
      · skip
        have r_28 := lt_l (hi := 19) (nle h_26) rv_18 rc_20 (by decide)
        refine g_iload C 4 dX7_readCond_19 rfl ?_
        refine g_if_eq C (tgt := 71) dX7_readCond_21 (by decide) (fun h_29 => ?_) (fun h_29 => ?_)
        · skip
          have r_30 := (⟨(rv_17).1, (eq_rg (h_29) rc_0).2⟩ : Rg 0 0 v_17)
          refine g_iload C 4 dX7_readCond_71 rfl ?_
          exact g_zret (ty := .boolean) (r := v_17) B K rfl (nar_z (rg_w r_30 (by decide) (by decide))) ⟨hU_14, hF_15, hG_16, rg_w r_30 (by decide) (by decide), (by (try simp only [h_26, (nle h_26), (eq_true h_29), if_true, if_false, bqM_pnm, bqM_par, bqM_dnm, bqM_persons, bqM_dishes, bqM_law, bqM_dogs, TB_.w_pnm, TB_.w_par, TB_.w_dnm, TB_.w_persons, TB_.w_dishes, TB_.w_law, TB_.w_dogs, sqM_sl, sqM_so, SP_.w_sl, SP_.w_so, tqM_by_, tqM_wd, tqM_tk, tqM_pl, tqM_vl, tqM_len, tqM_n, tqM_at_, tqM_token, tqM_place, tqM_value, tqM_fault, tqM_fat, TP_.w_by_, TP_.w_wd, TP_.w_tk, TP_.w_pl, TP_.w_vl, TP_.w_len, TP_.w_n, TP_.w_at_, TP_.w_token, TP_.w_place, TP_.w_value, TP_.w_fault, TP_.w_fat] at hQ_24); (try simp only [h_26, (nle h_26), (eq_true h_29), if_true, if_false, bqM_pnm, bqM_par, bqM_dnm, bqM_persons, bqM_dishes, bqM_law, bqM_dogs, TB_.w_pnm, TB_.w_par, TB_.w_dnm, TB_.w_persons, TB_.w_dishes, TB_.w_law, TB_.w_dogs, sqM_sl, sqM_so, SP_.w_sl, SP_.w_so, tqM_by_, tqM_wd, tqM_tk, tqM_pl, tqM_vl, tqM_len, tqM_n, tqM_at_, tqM_token, tqM_place, tqM_value, tqM_fault, tqM_fat, TP_.w_by_, TP_.w_wd, TP_.w_tk, TP_.w_pl, TP_.w_vl, TP_.w_len, TP_.w_n, TP_.w_at_, TP_.w_token, TP_.w_place, TP_.w_value, TP_.w_fault, TP_.w_fat] at u_25); simp only [ebqa1, hs_21, hs_4, etqa0, hs_22, hs_10, esqx, hs_23, hs_11, hQ_24, u_25, h_26, (nle h_26), (eq_true h_29), if_true, if_false, bqM_pnm, bqM_par, bqM_dnm, bqM_persons, bqM_dishes, bqM_law, bqM_dogs, TB_.w_pnm, TB_.w_par, TB_.w_dnm, TB_.w_persons, TB_.w_dishes, TB_.w_law, TB_.w_dogs, sqM_sl, sqM_so, SP_.w_sl, SP_.w_so, tqM_by_, tqM_wd, tqM_tk, tqM_pl, tqM_vl, tqM_len, tqM_n, tqM_at_, tqM_token, tqM_place, tqM_value, tqM_fault, tqM_fat, TP_.w_by_, TP_.w_wd, TP_.w_tk, TP_.w_pl, TP_.w_vl, TP_.w_len, TP_.w_n, TP_.w_at_, TP_.w_token, TP_.w_place, TP_.w_value, TP_.w_fault, TP_.w_fat])⟩ dX7_readCond_73
        · skip
          have n_31 : ¬ v_17 = 0 := h_29
          have r_32 := ne_lo (lo := 1) n_31 rv_17 rc_0 rfl (by decide)
          refine g_aload_n C 1 dX7_readCond_24 rfl rfl ?_
          obtain ⟨x_33, hx_33, rx_33⟩ := ex_get (I := I_12) (a := a0) (j := 8) (lo := (-2147483648)) (hi := 2147483647) hU_14.1 hLa0 (ro_o hka0 (by decide)) rfl
          have f_34 : s_22.token = x_33 := (congrArg TP_.token hs_22).symm.trans hx_33
          refine g_getI C K hLa0 hka0 f_7_57 (v := x_33) hx_33 dX7_readCond_25 ?_
          refine g_bipush C (v := 17) dX7_readCond_28 (by decide) ?_
          refine g_icmp_ne C (tgt := 71) dX7_readCond_30 (by decide) (fun h_35 => ?_) (fun h_35 => ?_)
          · skip
            have n_36 : ¬ x_33 = 17 := h_35
            refine g_iload C 4 dX7_readCond_71 rfl ?_
            exact g_zret (ty := .boolean) (r := v_17) B K rfl (nar_z (rg_w r_32 (by decide) (by decide))) ⟨hU_14, hF_15, hG_16, rg_w r_32 (by decide) (by decide), (by (try simp only [h_26, (nle h_26), h_29, hx_33, f_34, h_35, if_true, if_false, bqM_pnm, bqM_par, bqM_dnm, bqM_persons, bqM_dishes, bqM_law, bqM_dogs, TB_.w_pnm, TB_.w_par, TB_.w_dnm, TB_.w_persons, TB_.w_dishes, TB_.w_law, TB_.w_dogs, sqM_sl, sqM_so, SP_.w_sl, SP_.w_so, tqM_by_, tqM_wd, tqM_tk, tqM_pl, tqM_vl, tqM_len, tqM_n, tqM_at_, tqM_token, tqM_place, tqM_value, tqM_fault, tqM_fat, TP_.w_by_, TP_.w_wd, TP_.w_tk, TP_.w_pl, TP_.w_vl, TP_.w_len, TP_.w_n, TP_.w_at_, TP_.w_token, TP_.w_place, TP_.w_value, TP_.w_fault, TP_.w_fat] at hQ_24); (try simp only [h_26, (nle h_26), h_29, hx_33, f_34, h_35, if_true, if_false, bqM_pnm, bqM_par, bqM_dnm, bqM_persons, bqM_dishes, bqM_law, bqM_dogs, TB_.w_pnm, TB_.w_par, TB_.w_dnm, TB_.w_persons, TB_.w_dishes, TB_.w_law, TB_.w_dogs, sqM_sl, sqM_so, SP_.w_sl, SP_.w_so, tqM_by_, tqM_wd, tqM_tk, tqM_pl, tqM_vl, tqM_len, tqM_n, tqM_at_, tqM_token, tqM_place, tqM_value, tqM_fault, tqM_fat, TP_.w_by_, TP_.w_wd, TP_.w_tk, TP_.w_pl, TP_.w_vl, TP_.w_len, TP_.w_n, TP_.w_at_, TP_.w_token, TP_.w_place, TP_.w_value, TP_.w_fault, TP_.w_fat] at u_25); simp only [ebqa1, hs_21, hs_4, etqa0, hs_22, hs_10, esqx, hs_23, hs_11, hQ_24, u_25, h_26, (nle h_26), h_29, hx_33, f_34, h_35, if_true, if_false, bqM_pnm, bqM_par, bqM_dnm, bqM_persons, bqM_dishes, bqM_law, bqM_dogs, TB_.w_pnm, TB_.w_par, TB_.w_dnm, TB_.w_persons, TB_.w_dishes, TB_.w_law, TB_.w_dogs, sqM_sl, sqM_so, SP_.w_sl, SP_.w_so, tqM_by_, tqM_wd, tqM_tk, tqM_pl, tqM_vl, tqM_len, tqM_n, tqM_at_, tqM_token, tqM_place, tqM_value, tqM_fault, tqM_fat, TP_.w_by_, TP_.w_wd, TP_.w_tk, TP_.w_pl, TP_.w_vl, TP_.w_len, TP_.w_n, TP_.w_at_, TP_.w_token, TP_.w_place, TP_.w_value, TP_.w_fault, TP_.w_fat])⟩ dX7_readCond_73
          · skip
            have r_37 := (⟨(eq_rg (h_35) rc_17).1, (eq_rg (h_35) rc_17).2⟩ : Rg 17 17 x_33)
            refine g_aload_n C 1 dX7_readCond_33 rfl rfl ?_
            refine g_callVV C K (c_X10_advance W9 hLa0 hka0   hU_14) hLa0 hka0 (by decide) rfl v_7_60 rfl ⟨rfl, rfl⟩ ⟨Nat.le_of_ble_eq_true rfl, Nat.le_of_ble_eq_true rfl⟩ (Nat.le_of_ble_eq_true rfl) ⟨Nat.le_of_ble_eq_true rfl, Nat.le_of_ble_eq_true rfl⟩ dX7_readCond_34 rfl (st := []) (fun I_39 J_40 h_41 => ?_)
            obtain ⟨hUI_39, hFI_39, hGJ_40, fx_38⟩ := h_41
            have hF_42 := fq_tr hF_15 hFI_39 (by decide)
            have hG_43 := fq_tr hG_16 hGJ_40 (by decide)
            obtain ⟨s_45, hs_45⟩ : ∃ z, TPq I_39 J_40 a0 b_5 b_6 b_7 b_8 b_9 = z := ⟨_, rfl⟩
            have c_44 : fAdvance (s_22) = s_45 := by have q := fx_38; simp only [etqa0, hs_22, hs_45] at q; exact q.symm
            have hs_46 : TBq I_39 J_40 a1 b_1 b_2 b_3 = s_21 := (bq_fq wbqa1 hFI_39 hGJ_40 (by decide) (by decide)).trans hs_21
            have hs_47 : SPq I_39 J_40 x = s_23 := (sq_fq wsqx hFI_39 hGJ_40 (by decide) (by decide)).trans hs_23
            refine g_aload_n C 0 dX7_readCond_37 rfl rfl ?_
            refine g_aload_n C 1 dX7_readCond_38 rfl rfl ?_
            refine g_aload_n C 2 dX7_readCond_39 rfl rfl ?_
            refine g_iload_n C 3 dX7_readCond_40 rfl rfl ?_
            refine g_callVI C K (c_X7_readAll_7 W9 hLx hkx hLa0 hka0 hLa1 hka1 a2 (ra2) hUI_39) hLx hkx (by decide) rfl v_7_54 rfl ⟨rfl, rfl⟩ ⟨Nat.le_of_ble_eq_true rfl, Nat.le_of_ble_eq_true rfl⟩ (Nat.le_of_ble_eq_true rfl) ⟨Nat.le_of_ble_eq_true rfl, Nat.le_of_ble_eq_true rfl⟩ dX7_readCond_41 rfl (st := []) (fun x_48 I_49 J_50 h_51 => ?_)
            obtain ⟨hUI_49, hFI_49, hGJ_50, rx_48, fx_48⟩ := h_51
            have hF_52 := fq_tr hF_42 hFI_49 (by decide)
            have hG_53 := fq_tr hG_43 hGJ_50 (by decide)
            obtain ⟨s_55, hs_55⟩ : ∃ z, TPq I_49 J_50 a0 b_5 b_6 b_7 b_8 b_9 = z := ⟨_, rfl⟩
            obtain ⟨s_56, hs_56⟩ : ∃ z, SPq I_49 J_50 x = z := ⟨_, rfl⟩
            have c_54 : fAll 2 (s_21) (s_45) (s_23) = (x_48, s_55, s_56) := by have q := fx_48; simp only [ebqa1, etqa0, esqx, hs_46, hs_45, hs_47, hs_55, hs_56] at q; exact q.symm
            have hs_57 : TBq I_49 J_50 a1 b_1 b_2 b_3 = s_21 := (bq_fq wbqa1 hFI_49 hGJ_50 (by decide) (by decide)).trans hs_46
            refine g_if_eq C (tgt := 62) dX7_readCond_44 (by decide) (fun h_58 => ?_) (fun h_58 => ?_)
            · skip
              have r_59 := (⟨(rx_48).1, (eq_rg (h_58) rc_0).2⟩ : Rg 0 0 x_48)
              refine g_iconst C (v := 0) dX7_readCond_62 (by decide) ?_
              refine g_istore C dX7_readCond_63 (by decide) (lo2 := [(4, .int 0), (0, .ref x), (1, .ref a0), (2, .ref a1), (3, .int a2), (5, .int v_18)]) rfl ?_
              obtain ⟨x_60, hx_60, rx_60, tx_60⟩ := ex_add (y := 1) 1 20 r_28 rc_1 (by decide) (by decide) (by decide) (by decide)
              refine g_iinc C dX7_readCond_65 (k := 5) (v := x_60) rfl hx_60 (by decide) (lo2 := [(5, .int x_60), (4, .int 0), (0, .ref x), (1, .ref a0), (2, .ref a1), (3, .int a2)]) rfl ?_
              refine g_goto C (tgt := 12) dX7_readCond_68 (by decide) ?_
              refine g_lo (is := [2, 3, 4, 5, 1, 0]) (lo2 := [(0, .ref x), (1, .ref a0), (2, .ref a1), (3, .int a2), (4, .int 0), (5, .int x_60)]) rfl ?_
              exact ih_12 I_49 J_50 hUI_49 hF_52 hG_53 0 (rg_w rc_0 (by decide) (by decide)) x_60 (rg_w rx_60 (by decide) (by decide)) (by (try simp only [h_26, (nle h_26), h_29, hx_33, f_34, (eq_true h_35), c_44, c_54, (eq_true h_58), hx_60, if_true, if_false, bqM_pnm, bqM_par, bqM_dnm, bqM_persons, bqM_dishes, bqM_law, bqM_dogs, TB_.w_pnm, TB_.w_par, TB_.w_dnm, TB_.w_persons, TB_.w_dishes, TB_.w_law, TB_.w_dogs, sqM_sl, sqM_so, SP_.w_sl, SP_.w_so, tqM_by_, tqM_wd, tqM_tk, tqM_pl, tqM_vl, tqM_len, tqM_n, tqM_at_, tqM_token, tqM_place, tqM_value, tqM_fault, tqM_fat, TP_.w_by_, TP_.w_wd, TP_.w_tk, TP_.w_pl, TP_.w_vl, TP_.w_len, TP_.w_n, TP_.w_at_, TP_.w_token, TP_.w_place, TP_.w_value, TP_.w_fault, TP_.w_fat] at hQ_24); (try simp only [h_26, (nle h_26), h_29, hx_33, f_34, (eq_true h_35), c_44, c_54, (eq_true h_58), hx_60, if_true, if_false, bqM_pnm, bqM_par, bqM_dnm, bqM_persons, bqM_dishes, bqM_law, bqM_dogs, TB_.w_pnm, TB_.w_par, TB_.w_dnm, TB_.w_persons, TB_.w_dishes, TB_.w_law, TB_.w_dogs, sqM_sl, sqM_so, SP_.w_sl, SP_.w_so, tqM_by_, tqM_wd, tqM_tk, tqM_pl, tqM_vl, tqM_len, tqM_n, tqM_at_, tqM_token, tqM_place, tqM_value, tqM_fault, tqM_fat, TP_.w_by_, TP_.w_wd, TP_.w_tk, TP_.w_pl, TP_.w_vl, TP_.w_len, TP_.w_n, TP_.w_at_, TP_.w_token, TP_.w_place, TP_.w_value, TP_.w_fault, TP_.w_fat] at u_25); simp only [ebqa1, hs_57, hs_4, etqa0, hs_55, hs_10, esqx, hs_56, hs_11, hQ_24, u_25, h_26, (nle h_26), h_29, hx_33, f_34, (eq_true h_35), c_44, c_54, (eq_true h_58), hx_60, if_true, if_false, bqM_pnm, bqM_par, bqM_dnm, bqM_persons, bqM_dishes, bqM_law, bqM_dogs, TB_.w_pnm, TB_.w_par, TB_.w_dnm, TB_.w_persons, TB_.w_dishes, TB_.w_law, TB_.w_dogs, sqM_sl, sqM_so, SP_.w_sl, SP_.w_so, tqM_by_, tqM_wd, tqM_tk, tqM_pl, tqM_vl, tqM_len, tqM_n, tqM_at_, tqM_token, tqM_place, tqM_value, tqM_fault, tqM_fat, TP_.w_by_, TP_.w_wd, TP_.w_tk, TP_.w_pl, TP_.w_vl, TP_.w_len, TP_.w_n, TP_.w_at_, TP_.w_token, TP_.w_place, TP_.w_value, TP_.w_fault, TP_.w_fat]) (ms_1 hm_20 (ti_k tx_60 rc_1) (by decide))
            · skip
              have n_61 : ¬ x_48 = 0 := h_58
              have r_62 := ne_lo (lo := 1) n_61 rx_48 rc_0 rfl (by decide)
              refine g_aload_n C 0 dX7_readCond_47 rfl rfl ?_
              refine g_bipush C (v := 17) dX7_readCond_48 (by decide) ?_
              refine g_iconst C (v := 0) dX7_readCond_50 (by decide) ?_
              refine g_iconst C (v := 0) dX7_readCond_51 (by decide) ?_
              refine g_callVI C K (c_X7_addStep W9 hLx hkx 17 0 0 (rg_w rc_0 (by decide) (by decide)) hUI_49  (fun q => absurd q (by decide))) hLx hkx (by decide) rfl v_7_63 rfl ⟨rfl, rfl⟩ ⟨Nat.le_of_ble_eq_true rfl, Nat.le_of_ble_eq_true rfl⟩ (Nat.le_of_ble_eq_true rfl) ⟨Nat.le_of_ble_eq_true rfl, Nat.le_of_ble_eq_true rfl⟩ dX7_readCond_52 rfl (st := []) (fun x_63 I_64 J_65 h_66 => ?_)
              obtain ⟨hUI_64, hFI_64, hGJ_65, rx_63, fx_63⟩ := h_66
              have hF_67 := fq_tr hF_52 hFI_64 (by decide)
              have hG_68 := fq_tr hG_53 hGJ_65 (by decide)
              obtain ⟨s_70, hs_70⟩ : ∃ z, SPq I_64 J_65 x = z := ⟨_, rfl⟩
              have c_69 : fAddStep (s_56) = (x_63, s_70) := by have q := fx_63; simp only [esqx, hs_56, hs_70] at q; exact q.symm
              have hs_71 : TBq I_64 J_65 a1 b_1 b_2 b_3 = s_21 := (bq_fq wbqa1 hFI_64 hGJ_65 (by decide) (by decide)).trans hs_57
              have hs_72 : TPq I_64 J_65 a0 b_5 b_6 b_7 b_8 b_9 = s_55 := (tq_fq wtqa0 hFI_64 hGJ_65 (by decide) (by decide)).trans hs_55
              refine g_if_eq C (tgt := 62) dX7_readCond_55 (by decide) (fun h_73 => ?_) (fun h_73 => ?_)
              · skip
                have r_74 := (⟨(rx_63).1, (eq_rg (h_73) rc_0).2⟩ : Rg 0 0 x_63)
                refine g_iconst C (v := 0) dX7_readCond_62 (by decide) ?_
                refine g_istore C dX7_readCond_63 (by decide) (lo2 := [(4, .int 0), (0, .ref x), (1, .ref a0), (2, .ref a1), (3, .int a2), (5, .int v_18)]) rfl ?_
                obtain ⟨x_75, hx_75, rx_75, tx_75⟩ := ex_add (y := 1) 1 20 r_28 rc_1 (by decide) (by decide) (by decide) (by decide)
                refine g_iinc C dX7_readCond_65 (k := 5) (v := x_75) rfl hx_75 (by decide) (lo2 := [(5, .int x_75), (4, .int 0), (0, .ref x), (1, .ref a0), (2, .ref a1), (3, .int a2)]) rfl ?_
                refine g_goto C (tgt := 12) dX7_readCond_68 (by decide) ?_
                refine g_lo (is := [2, 3, 4, 5, 1, 0]) (lo2 := [(0, .ref x), (1, .ref a0), (2, .ref a1), (3, .int a2), (4, .int 0), (5, .int x_75)]) rfl ?_
                exact ih_12 I_64 J_65 hUI_64 hF_67 hG_68 0 (rg_w rc_0 (by decide) (by decide)) x_75 (rg_w rx_75 (by decide) (by decide)) (by (try simp only [h_26, (nle h_26), h_29, hx_33, f_34, (eq_true h_35), c_44, c_54, h_58, c_69, (eq_true h_73), hx_75, if_true, if_false, bqM_pnm, bqM_par, bqM_dnm, bqM_persons, bqM_dishes, bqM_law, bqM_dogs, TB_.w_pnm, TB_.w_par, TB_.w_dnm, TB_.w_persons, TB_.w_dishes, TB_.w_law, TB_.w_dogs, sqM_sl, sqM_so, SP_.w_sl, SP_.w_so, tqM_by_, tqM_wd, tqM_tk, tqM_pl, tqM_vl, tqM_len, tqM_n, tqM_at_, tqM_token, tqM_place, tqM_value, tqM_fault, tqM_fat, TP_.w_by_, TP_.w_wd, TP_.w_tk, TP_.w_pl, TP_.w_vl, TP_.w_len, TP_.w_n, TP_.w_at_, TP_.w_token, TP_.w_place, TP_.w_value, TP_.w_fault, TP_.w_fat] at hQ_24); (try simp only [h_26, (nle h_26), h_29, hx_33, f_34, (eq_true h_35), c_44, c_54, h_58, c_69, (eq_true h_73), hx_75, if_true, if_false, bqM_pnm, bqM_par, bqM_dnm, bqM_persons, bqM_dishes, bqM_law, bqM_dogs, TB_.w_pnm, TB_.w_par, TB_.w_dnm, TB_.w_persons, TB_.w_dishes, TB_.w_law, TB_.w_dogs, sqM_sl, sqM_so, SP_.w_sl, SP_.w_so, tqM_by_, tqM_wd, tqM_tk, tqM_pl, tqM_vl, tqM_len, tqM_n, tqM_at_, tqM_token, tqM_place, tqM_value, tqM_fault, tqM_fat, TP_.w_by_, TP_.w_wd, TP_.w_tk, TP_.w_pl, TP_.w_vl, TP_.w_len, TP_.w_n, TP_.w_at_, TP_.w_token, TP_.w_place, TP_.w_value, TP_.w_fault, TP_.w_fat] at u_25); simp only [ebqa1, hs_71, hs_4, etqa0, hs_72, hs_10, esqx, hs_70, hs_11, hQ_24, u_25, h_26, (nle h_26), h_29, hx_33, f_34, (eq_true h_35), c_44, c_54, h_58, c_69, (eq_true h_73), hx_75, if_true, if_false, bqM_pnm, bqM_par, bqM_dnm, bqM_persons, bqM_dishes, bqM_law, bqM_dogs, TB_.w_pnm, TB_.w_par, TB_.w_dnm, TB_.w_persons, TB_.w_dishes, TB_.w_law, TB_.w_dogs, sqM_sl, sqM_so, SP_.w_sl, SP_.w_so, tqM_by_, tqM_wd, tqM_tk, tqM_pl, tqM_vl, tqM_len, tqM_n, tqM_at_, tqM_token, tqM_place, tqM_value, tqM_fault, tqM_fat, TP_.w_by_, TP_.w_wd, TP_.w_tk, TP_.w_pl, TP_.w_vl, TP_.w_len, TP_.w_n, TP_.w_at_, TP_.w_token, TP_.w_place, TP_.w_value, TP_.w_fault, TP_.w_fat]) (ms_1 hm_20 (ti_k tx_75 rc_1) (by decide))
              · skip
                have n_76 : ¬ x_63 = 0 := h_73
                have r_77 := ne_lo (lo := 1) n_76 rx_63 rc_0 rfl (by decide)
                refine g_iconst C (v := 1) dX7_readCond_58 (by decide) ?_
                refine g_goto C (tgt := 63) dX7_readCond_59 (by decide) ?_
                refine g_istore C dX7_readCond_63 (by decide) (lo2 := [(4, .int 1), (0, .ref x), (1, .ref a0), (2, .ref a1), (3, .int a2), (5, .int v_18)]) rfl ?_
                obtain ⟨x_78, hx_78, rx_78, tx_78⟩ := ex_add (y := 1) 1 20 r_28 rc_1 (by decide) (by decide) (by decide) (by decide)
                refine g_iinc C dX7_readCond_65 (k := 5) (v := x_78) rfl hx_78 (by decide) (lo2 := [(5, .int x_78), (4, .int 1), (0, .ref x), (1, .ref a0), (2, .ref a1), (3, .int a2)]) rfl ?_
                refine g_goto C (tgt := 12) dX7_readCond_68 (by decide) ?_
                refine g_lo (is := [2, 3, 4, 5, 1, 0]) (lo2 := [(0, .ref x), (1, .ref a0), (2, .ref a1), (3, .int a2), (4, .int 1), (5, .int x_78)]) rfl ?_
                exact ih_12 I_64 J_65 hUI_64 hF_67 hG_68 1 (rg_w rc_1 (by decide) (by decide)) x_78 (rg_w rx_78 (by decide) (by decide)) (by (try simp only [h_26, (nle h_26), h_29, hx_33, f_34, (eq_true h_35), c_44, c_54, h_58, c_69, h_73, hx_78, if_true, if_false, bqM_pnm, bqM_par, bqM_dnm, bqM_persons, bqM_dishes, bqM_law, bqM_dogs, TB_.w_pnm, TB_.w_par, TB_.w_dnm, TB_.w_persons, TB_.w_dishes, TB_.w_law, TB_.w_dogs, sqM_sl, sqM_so, SP_.w_sl, SP_.w_so, tqM_by_, tqM_wd, tqM_tk, tqM_pl, tqM_vl, tqM_len, tqM_n, tqM_at_, tqM_token, tqM_place, tqM_value, tqM_fault, tqM_fat, TP_.w_by_, TP_.w_wd, TP_.w_tk, TP_.w_pl, TP_.w_vl, TP_.w_len, TP_.w_n, TP_.w_at_, TP_.w_token, TP_.w_place, TP_.w_value, TP_.w_fault, TP_.w_fat] at hQ_24); (try simp only [h_26, (nle h_26), h_29, hx_33, f_34, (eq_true h_35), c_44, c_54, h_58, c_69, h_73, hx_78, if_true, if_false, bqM_pnm, bqM_par, bqM_dnm, bqM_persons, bqM_dishes, bqM_law, bqM_dogs, TB_.w_pnm, TB_.w_par, TB_.w_dnm, TB_.w_persons, TB_.w_dishes, TB_.w_law, TB_.w_dogs, sqM_sl, sqM_so, SP_.w_sl, SP_.w_so, tqM_by_, tqM_wd, tqM_tk, tqM_pl, tqM_vl, tqM_len, tqM_n, tqM_at_, tqM_token, tqM_place, tqM_value, tqM_fault, tqM_fat, TP_.w_by_, TP_.w_wd, TP_.w_tk, TP_.w_pl, TP_.w_vl, TP_.w_len, TP_.w_n, TP_.w_at_, TP_.w_token, TP_.w_place, TP_.w_value, TP_.w_fault, TP_.w_fat] at u_25); simp only [ebqa1, hs_71, hs_4, etqa0, hs_72, hs_10, esqx, hs_70, hs_11, hQ_24, u_25, h_26, (nle h_26), h_29, hx_33, f_34, (eq_true h_35), c_44, c_54, h_58, c_69, h_73, hx_78, if_true, if_false, bqM_pnm, bqM_par, bqM_dnm, bqM_persons, bqM_dishes, bqM_law, bqM_dogs, TB_.w_pnm, TB_.w_par, TB_.w_dnm, TB_.w_persons, TB_.w_dishes, TB_.w_law, TB_.w_dogs, sqM_sl, sqM_so, SP_.w_sl, SP_.w_so, tqM_by_, tqM_wd, tqM_tk, tqM_pl, tqM_vl, tqM_len, tqM_n, tqM_at_, tqM_token, tqM_place, tqM_value, tqM_fault, tqM_fat, TP_.w_by_, TP_.w_wd, TP_.w_tk, TP_.w_pl, TP_.w_vl, TP_.w_len, TP_.w_n, TP_.w_at_, TP_.w_token, TP_.w_place, TP_.w_value, TP_.w_fault, TP_.w_fat]) (ms_1 hm_20 (ti_k tx_78 rc_1) (by decide))
  refine g_aload_n C 0 dX7_readCond_0 rfl rfl ?_
  refine g_aload_n C 1 dX7_readCond_1 rfl rfl ?_
  refine g_aload_n C 2 dX7_readCond_2 rfl rfl ?_
  refine g_iload_n C 3 dX7_readCond_3 rfl rfl ?_
  refine g_callVI C K (c_X7_readAll_7 W9 hLx hkx hLa0 hka0 hLa1 hka1 a2 (ra2) hU) hLx hkx (by decide) rfl v_7_54 rfl ⟨rfl, rfl⟩ ⟨Nat.le_of_ble_eq_true rfl, Nat.le_of_ble_eq_true rfl⟩ (Nat.le_of_ble_eq_true rfl) ⟨Nat.le_of_ble_eq_true rfl, Nat.le_of_ble_eq_true rfl⟩ dX7_readCond_4 rfl (st := []) (fun x_79 I_80 J_81 h_82 => ?_)
  obtain ⟨hUI_80, hFI_80, hGJ_81, rx_79, fx_79⟩ := h_82
  have hF_83 := fq_tr hF hFI_80 (by decide)
  have hG_84 := fq_tr hG hGJ_81 (by decide)
  obtain ⟨s_86, hs_86⟩ : ∃ z, TPq I_80 J_81 a0 b_5 b_6 b_7 b_8 b_9 = z := ⟨_, rfl⟩
  obtain ⟨s_87, hs_87⟩ : ∃ z, SPq I_80 J_81 x = z := ⟨_, rfl⟩
  have c_85 : fAll 2 (s_4) (s_10) (s_11) = (x_79, s_86, s_87) := by have q := fx_79; simp only [ebqa1, etqa0, esqx, hs_4, hs_10, hs_11, hs_86, hs_87] at q; exact q.symm
  have hs_88 : TBq I_80 J_81 a1 b_1 b_2 b_3 = s_4 := (bq_fq wbqa1 hFI_80 hGJ_81 (by decide) (by decide)).trans hs_4
  refine g_istore C dX7_readCond_7 (by decide) (lo2 := [(4, .int x_79), (0, .ref x), (1, .ref a0), (2, .ref a1), (3, .int a2)]) rfl ?_
  refine g_iconst C (v := 0) dX7_readCond_9 (by decide) ?_
  refine g_istore C dX7_readCond_10 (by decide) (lo2 := [(5, .int 0), (4, .int x_79), (0, .ref x), (1, .ref a0), (2, .ref a1), (3, .int a2)]) rfl ?_
  refine g_lo (is := [2, 3, 4, 5, 1, 0]) (lo2 := [(0, .ref x), (1, .ref a0), (2, .ref a1), (3, .int a2), (4, .int x_79), (5, .int 0)]) rfl ?_
  exact l_12 21 I_80 J_81 hUI_80 hF_83 hG_84 x_79 (rx_79) 0 (rg_w rc_0 (by decide) (by decide)) (by simp only [fCond, ebqa1, hs_88, hs_4, etqa0, hs_86, hs_10, esqx, hs_87, hs_11, c_85, if_true, if_false, bqM_pnm, bqM_par, bqM_dnm, bqM_persons, bqM_dishes, bqM_law, bqM_dogs, TB_.w_pnm, TB_.w_par, TB_.w_dnm, TB_.w_persons, TB_.w_dishes, TB_.w_law, TB_.w_dogs, sqM_sl, sqM_so, SP_.w_sl, SP_.w_so, tqM_by_, tqM_wd, tqM_tk, tqM_pl, tqM_vl, tqM_len, tqM_n, tqM_at_, tqM_token, tqM_place, tqM_value, tqM_fault, tqM_fat, TP_.w_by_, TP_.w_wd, TP_.w_tk, TP_.w_pl, TP_.w_vl, TP_.w_len, TP_.w_n, TP_.w_at_, TP_.w_token, TP_.w_place, TP_.w_value, TP_.w_fault, TP_.w_fat]) (ms_s (a := 0) (b := 20) (N := 21) (rg_w rc_0 (by decide) (by decide)) (by decide))
set_option maxRecDepth 100000 in
set_option maxHeartbeats 8000000 in
theorem c_X7_readOne_6 {l : Launch} {D : va_G} {cy : Nat → ClassId} {L : List Nat} {κ ln : Nat → Nat} {R : Nat → Nat → Option Nat} {I : Nat → Nat → Int32} {J : Nat → Nat → Int64} {ow : Nat → Nat × Nat} (W9 : ∀ a ∈ L, Shp L κ ln R ow a) {x : Nat} (hLx : x ∈ L) (hkx : κ x = 7) {a0 : Nat} (hLa0 : a0 ∈ L) (hka0 : κ a0 = 10) {a1 : Nat} (hLa1 : a1 ∈ L) (hka1 : κ a1 = 8) (a2 : Int32) (ra2 : Rg 6 6 a2) (hU : Iv L κ R ow I) : CtI l yX7_readOne cX7_readOne 5 (some .boolean) { frames := 10, cells := 0, slots := 0, locals := 243 } D cy L κ ln R I J [.ref x, .ref a0, .ref a1, .int a2] (fun r I2 J2 => Iv L κ R ow I2 ∧ Fq L κ ow [704, 705, 1007, 1008, 1009, 1011, 1012, 52000, 52100, 52200] I I2 ∧ Fq L κ ow [1010] J J2 ∧ Rg 0 1 r ∧ ((r, TPf R I2 J2 a0, SPf R I2 J2 x) = fOne 3 (TBf R I J a1) (TPf R I J a0) (SPf R I J x))) := by
  refine CtI.of (by decide +kernel) (Nat.le_of_ble_eq_true rfl) ?_
  intro p e s m below meth c B K
  have C := B.1
  have hF : Fq L κ ow [704, 705, 1007, 1008, 1009, 1011, 1012, 52000, 52100, 52200] I I := fq_rf
  have hG : Fq L κ ow [1010] J J := fq_rf
  obtain ⟨b_1, hb_1, hb_1L, hb_1k, hb_1n, hb_1o⟩ := shp_a (W9 a1 hLa1) hka1 0 15 7 rfl (by decide)
  obtain ⟨b_2, hb_2, hb_2L, hb_2k, hb_2n, hb_2o⟩ := shp_a (W9 a1 hLa1) hka1 2 14 7 rfl (by decide)
  obtain ⟨b_3, hb_3, hb_3L, hb_3k, hb_3n, hb_3o⟩ := shp_a (W9 a1 hLa1) hka1 3 15 6 rfl (by decide)
  have ebqa1 : ∀ I J, TBf R I J a1 = TBq I J a1 b_1 b_2 b_3 := fun I J => by simp only [TBf, rr_, Option.getD_some, hb_1, hb_2, hb_3]
  have wbqa1 : bqw_ L κ ow a1 b_1 b_2 b_3 := ⟨⟨hLa1, hb_1L, hb_2L, hb_3L⟩, ⟨(ro_o hka1 (by decide)), (ro_a hb_1k (by decide) hb_1o hka1 rfl), (ro_a hb_2k (by decide) hb_2o hka1 rfl), (ro_a hb_3k (by decide) hb_3o hka1 rfl)⟩⟩
  obtain ⟨s_4, hs_4⟩ : ∃ z, TBq I J a1 b_1 b_2 b_3 = z := ⟨_, rfl⟩
  obtain ⟨b_5, hb_5, hb_5L, hb_5k, hb_5n, hb_5o⟩ := shp_a (W9 a0 hLa0) hka0 0 13 940 rfl (by decide)
  obtain ⟨b_6, hb_6, hb_6L, hb_6k, hb_6n, hb_6o⟩ := shp_a (W9 a0 hLa0) hka0 1 15 28 rfl (by decide)
  obtain ⟨b_7, hb_7, hb_7L, hb_7k, hb_7n, hb_7o⟩ := shp_a (W9 a0 hLa0) hka0 2 14 901 rfl (by decide)
  obtain ⟨b_8, hb_8, hb_8L, hb_8k, hb_8n, hb_8o⟩ := shp_a (W9 a0 hLa0) hka0 3 14 901 rfl (by decide)
  obtain ⟨b_9, hb_9, hb_9L, hb_9k, hb_9n, hb_9o⟩ := shp_a (W9 a0 hLa0) hka0 4 15 901 rfl (by decide)
  have etqa0 : ∀ I J, TPf R I J a0 = TPq I J a0 b_5 b_6 b_7 b_8 b_9 := fun I J => by simp only [TPf, rr_, Option.getD_some, hb_5, hb_6, hb_7, hb_8, hb_9]
  have wtqa0 : tqw_ L κ ow a0 b_5 b_6 b_7 b_8 b_9 := ⟨⟨hLa0, hb_5L, hb_6L, hb_7L, hb_8L, hb_9L⟩, ⟨(ro_o hka0 (by decide)), (ro_a hb_5k (by decide) hb_5o hka0 rfl), (ro_a hb_6k (by decide) hb_6o hka0 rfl), (ro_a hb_7k (by decide) hb_7o hka0 rfl), (ro_a hb_8k (by decide) hb_8o hka0 rfl), (ro_a hb_9k (by decide) hb_9o hka0 rfl)⟩⟩
  obtain ⟨s_10, hs_10⟩ : ∃ z, TPq I J a0 b_5 b_6 b_7 b_8 b_9 = z := ⟨_, rfl⟩
  have esqx : ∀ I J, SPf R I J x = SPq I J x := fun I J => by simp only [SPf, rr_, Option.getD_some]
  have wsqx : sqw_ L κ ow x := ⟨hLx, (ro_o hkx (by decide))⟩
  obtain ⟨s_11, hs_11⟩ : ∃ z, SPq I J x = z := ⟨_, rfl⟩
  refine g_lo (is := [0, 1, 2, 3]) (lo2 := [(0, .ref x), (1, .ref a0), (2, .ref a1), (3, .int a2)]) rfl ?_
  refine g_aload_n C 1 dX7_readOne_0 rfl rfl ?_
  obtain ⟨x_12, hx_12, rx_12⟩ := ex_get (I := I) (a := a0) (j := 8) (lo := (-2147483648)) (hi := 2147483647) hU.1 hLa0 (ro_o hka0 (by decide)) rfl
  have f_13 : s_10.token = x_12 := (congrArg TP_.token hs_10).symm.trans hx_12
  refine g_getI C K hLa0 hka0 f_7_57 (v := x_12) hx_12 dX7_readOne_1 ?_
  refine g_istore C dX7_readOne_4 (by decide) (lo2 := [(4, .int x_12), (0, .ref x), (1, .ref a0), (2, .ref a1), (3, .int a2)]) rfl ?_
  refine g_iload C 0 dX7_readOne_6 rfl ?_
  refine g_callSI C K (c_X7_beginsOne W9 x_12  hU) s_7_70 rfl ⟨rfl, rfl⟩ ⟨Nat.le_of_ble_eq_true rfl, Nat.le_of_ble_eq_true rfl⟩ (Nat.le_of_ble_eq_true rfl) ⟨Nat.le_of_ble_eq_true rfl, Nat.le_of_ble_eq_true rfl⟩ dX7_readOne_8 rfl (st := []) (fun x_14 I_15 J_16 h_17 => ?_)
  obtain ⟨rfl, rfl, rx_14, fx_14⟩ := h_17
  have c_18 : fBegOne (x_12) = x_14 := fx_14.symm
  refine g_if_ne C (tgt := 20) dX7_readOne_11 (by decide) (fun h_19 => ?_) (fun h_19 => ?_)
  · skip
    have n_20 : ¬ x_14 = 0 := h_19
    have r_21 := ne_lo (lo := 1) n_20 rx_14 rc_0 rfl (by decide)
    refine g_aload_n C 1 dX7_readOne_20 rfl rfl ?_
    obtain ⟨x_22, hx_22, rx_22⟩ := ex_get (I := I) (a := x) (j := 5) (lo := (-2147483648)) (hi := 2147483647) hU.1 hLx (ro_o hkx (by decide)) rfl
    have f_23 : s_11.so = x_22 := (congrArg SP_.so hs_11).symm.trans hx_22
    refine g_getI C K hLx hkx f_7_28 (v := x_22) hx_22 dX7_readOne_21 ?_
    refine g_bipush C (v := 20) dX7_readOne_24 (by decide) ?_
    refine g_icmp_ge C (tgt := 35) dX7_readOne_26 (by decide) (fun h_24 => ?_) (fun h_24 => ?_)
    · skip
      have r_25 := le_r (h_24) rc_20 rx_22
      refine g_aload_n C 2 dX7_readOne_35 rfl rfl ?_
      refine g_iconst C (v := 4) dX7_readOne_36 (by decide) ?_
      refine g_callVI C K (c_X10_fail W9 hLa0 hka0 4 (rg_w rc_4 (by decide) (by decide)) hU) hLa0 hka0 (by decide) rfl v_7_73 rfl ⟨rfl, rfl⟩ ⟨Nat.le_of_ble_eq_true rfl, Nat.le_of_ble_eq_true rfl⟩ (Nat.le_of_ble_eq_true rfl) ⟨Nat.le_of_ble_eq_true rfl, Nat.le_of_ble_eq_true rfl⟩ dX7_readOne_37 rfl (st := []) (fun x_26 I_27 J_28 h_29 => ?_)
      obtain ⟨hUI_27, hFI_27, hGJ_28, rx_26, fx_26⟩ := h_29
      have hF_30 := fq_tr hF hFI_27 (by decide)
      have hG_31 := fq_tr hG hGJ_28 (by decide)
      obtain ⟨s_33, hs_33⟩ : ∃ z, TPq I_27 J_28 a0 b_5 b_6 b_7 b_8 b_9 = z := ⟨_, rfl⟩
      have c_32 : fFail (4) (s_10) = (x_26, s_33) := by have q := fx_26; simp only [etqa0, hs_10, hs_33] at q; exact q.symm
      have hs_34 : TBq I_27 J_28 a1 b_1 b_2 b_3 = s_4 := (bq_fq wbqa1 hFI_27 hGJ_28 (by decide) (by decide)).trans hs_4
      have hs_35 : SPq I_27 J_28 x = s_11 := (sq_fq wsqx hFI_27 hGJ_28 (by decide) (by decide)).trans hs_11
      exact g_zret (ty := .boolean) (r := x_26) B K rfl (nar_z (rg_w rx_26 (by decide) (by decide))) ⟨hUI_27, hF_30, hG_31, rg_w rx_26 (by decide) (by decide), (by simp only [fOne_k3, fAnd2, fFailS, fCmp, ebqa1, hs_34, hs_4, etqa0, hs_33, hs_10, esqx, hs_35, hs_11, hx_12, f_13, c_18, h_19, hx_22, f_23, h_24, c_32, if_true, if_false, bqM_pnm, bqM_par, bqM_dnm, bqM_persons, bqM_dishes, bqM_law, bqM_dogs, TB_.w_pnm, TB_.w_par, TB_.w_dnm, TB_.w_persons, TB_.w_dishes, TB_.w_law, TB_.w_dogs, sqM_sl, sqM_so, SP_.w_sl, SP_.w_so, tqM_by_, tqM_wd, tqM_tk, tqM_pl, tqM_vl, tqM_len, tqM_n, tqM_at_, tqM_token, tqM_place, tqM_value, tqM_fault, tqM_fat, TP_.w_by_, TP_.w_wd, TP_.w_tk, TP_.w_pl, TP_.w_vl, TP_.w_len, TP_.w_n, TP_.w_at_, TP_.w_token, TP_.w_place, TP_.w_value, TP_.w_fault, TP_.w_fat])⟩ dX7_readOne_40
    · skip
      have r_36 := lt_l (hi := 19) (nle h_24) rx_22 rc_20 (by decide)
      refine g_iload_n C 4 dX7_readOne_29 rfl rfl ?_
      refine g_bipush C (v := 8) dX7_readOne_30 (by decide) ?_
      refine g_icmp_le C (tgt := 41) dX7_readOne_32 (by decide) (fun h_37 => ?_) (fun h_37 => ?_)
      · skip
        refine g_aload_n C 1 dX7_readOne_41 rfl rfl ?_
        refine g_dup C dX7_readOne_42 rfl ?_
        refine g_getI C K hLx hkx f_7_28 (v := x_22) hx_22 dX7_readOne_43 ?_
        refine g_iconst C (v := 1) dX7_readOne_46 (by decide) ?_
        obtain ⟨x_38, hx_38, rx_38, tx_38⟩ := ex_add (-2147483647) 20 r_36 rc_1 (by decide) (by decide) (by decide) (by decide)
        refine g_iadd C (v := x_38) dX7_readOne_47 hx_38 ?_
        refine h_putI C K hLx hkx f_7_28 p_7_5 dX7_readOne_48 (fun I_39 hI_39 => ?_)
        have hU_40 := iv_put W9 hU hI_39 (ro_o hkx (by decide)) (lo := (-2147483648)) (hi := 2147483647) (rfl) (rg_all _) rfl
        have hF_41 := fq_puto hF hI_39 hkx (by decide) (by decide)
        have hs_42 : TBq I_39 J a1 b_1 b_2 b_3 = s_4 := by rw [hI_39]; exact (bq_oI wbqa1 (ro_o hkx (by decide)) (by decide)).trans hs_4
        have hs_43 : TPq I_39 J a0 b_5 b_6 b_7 b_8 b_9 = s_10 := by rw [hI_39]; exact (tq_oI wtqa0 (ro_o hkx (by decide)) (by decide)).trans hs_10
        have hs_44 : SPq I_39 J x = (SP_.w_so s_11 (x_38)) := by rw [hI_39]; exact ((sq_so wsqx).trans (congrArg (fun z : SP_ => SP_.w_so z (x_38)) hs_11)).trans rfl
        refine g_aload_n C 2 dX7_readOne_51 rfl rfl ?_
        refine g_callVV C K (c_X10_advance W9 hLa0 hka0   hU_40) hLa0 hka0 (by decide) rfl v_7_60 rfl ⟨rfl, rfl⟩ ⟨Nat.le_of_ble_eq_true rfl, Nat.le_of_ble_eq_true rfl⟩ (Nat.le_of_ble_eq_true rfl) ⟨Nat.le_of_ble_eq_true rfl, Nat.le_of_ble_eq_true rfl⟩ dX7_readOne_52 rfl (st := []) (fun I_46 J_47 h_48 => ?_)
        obtain ⟨hUI_46, hFI_46, hGJ_47, fx_45⟩ := h_48
        have hF_49 := fq_tr hF_41 hFI_46 (by decide)
        have hG_50 := fq_tr hG hGJ_47 (by decide)
        obtain ⟨s_52, hs_52⟩ : ∃ z, TPq I_46 J_47 a0 b_5 b_6 b_7 b_8 b_9 = z := ⟨_, rfl⟩
        have c_51 : fAdvance (s_10) = s_52 := by have q := fx_45; simp only [etqa0, hs_43, hs_52] at q; exact q.symm
        have hs_53 : TBq I_46 J_47 a1 b_1 b_2 b_3 = s_4 := (bq_fq wbqa1 hFI_46 hGJ_47 (by decide) (by decide)).trans hs_42
        have hs_54 : SPq I_46 J_47 x = (SP_.w_so s_11 (x_38)) := (sq_fq wsqx hFI_46 hGJ_47 (by decide) (by decide)).trans hs_44
        refine g_iload C 0 dX7_readOne_55 rfl ?_
        refine g_bipush C (v := 40) dX7_readOne_57 (by decide) ?_
        refine g_icmp_ne C (tgt := 89) dX7_readOne_59 (by decide) (fun h_55 => ?_) (fun h_55 => ?_)
        · skip
          have n_56 : ¬ x_12 = 40 := h_55
          refine g_iload C 0 dX7_readOne_89 rfl ?_
          refine g_bipush C (v := 19) dX7_readOne_91 (by decide) ?_
          refine g_icmp_ne C (tgt := 125) dX7_readOne_93 (by decide) (fun h_57 => ?_) (fun h_57 => ?_)
          · skip
            have n_58 : ¬ x_12 = 19 := h_57
            refine g_aload_n C 1 dX7_readOne_125 rfl rfl ?_
            refine g_aload_n C 2 dX7_readOne_126 rfl rfl ?_
            refine g_aload_n C 3 dX7_readOne_127 rfl rfl ?_
            refine g_iload C 0 dX7_readOne_128 rfl ?_
            refine g_callVI C K (c_X7_readPlainOne W9 hLx hkx hLa0 hka0 hLa1 hka1 x_12  hUI_46) hLx hkx (by decide) rfl v_7_76 rfl ⟨rfl, rfl⟩ ⟨Nat.le_of_ble_eq_true rfl, Nat.le_of_ble_eq_true rfl⟩ (Nat.le_of_ble_eq_true rfl) ⟨Nat.le_of_ble_eq_true rfl, Nat.le_of_ble_eq_true rfl⟩ dX7_readOne_130 rfl (st := []) (fun x_59 I_60 J_61 h_62 => ?_)
            obtain ⟨hUI_60, hFI_60, hGJ_61, rx_59, fx_59⟩ := h_62
            have hF_63 := fq_tr hF_49 hFI_60 (by decide)
            have hG_64 := fq_tr hG_50 hGJ_61 (by decide)
            obtain ⟨s_66, hs_66⟩ : ∃ z, TPq I_60 J_61 a0 b_5 b_6 b_7 b_8 b_9 = z := ⟨_, rfl⟩
            obtain ⟨s_67, hs_67⟩ : ∃ z, SPq I_60 J_61 x = z := ⟨_, rfl⟩
            have c_65 : fPlain (x_12) (s_4) (s_52) ((SP_.w_so s_11 (x_38))) = (x_59, s_66, s_67) := by have q := fx_59; simp only [ebqa1, etqa0, esqx, hs_53, hs_52, hs_54, hs_66, hs_67] at q; exact q.symm
            have hs_68 : TBq I_60 J_61 a1 b_1 b_2 b_3 = s_4 := (bq_fq wbqa1 hFI_60 hGJ_61 (by decide) (by decide)).trans hs_53
            exact g_zret (ty := .boolean) (r := x_59) B K rfl (nar_z (rx_59)) ⟨hUI_60, hF_63, hG_64, rx_59, (by (try simp only [hx_12, f_13, c_18, h_19, hx_22, f_23, h_24, (nle h_24), h_37, hx_38, c_51, h_55, h_57, if_true, if_false, bqM_pnm, bqM_par, bqM_dnm, bqM_persons, bqM_dishes, bqM_law, bqM_dogs, TB_.w_pnm, TB_.w_par, TB_.w_dnm, TB_.w_persons, TB_.w_dishes, TB_.w_law, TB_.w_dogs, sqM_sl, sqM_so, SP_.w_sl, SP_.w_so, tqM_by_, tqM_wd, tqM_tk, tqM_pl, tqM_vl, tqM_len, tqM_n, tqM_at_, tqM_token, tqM_place, tqM_value, tqM_fault, tqM_fat, TP_.w_by_, TP_.w_wd, TP_.w_tk, TP_.w_pl, TP_.w_vl, TP_.w_len, TP_.w_n, TP_.w_at_, TP_.w_token, TP_.w_place, TP_.w_value, TP_.w_fault, TP_.w_fat] at c_65); simp only [fOne_k3, fAnd2, fFailS, fCmp, ebqa1, hs_68, hs_4, etqa0, hs_66, hs_10, esqx, hs_67, hs_11, hx_12, f_13, c_18, h_19, hx_22, f_23, h_24, (nle h_24), h_37, hx_38, c_51, h_55, h_57, c_65, if_true, if_false, bqM_pnm, bqM_par, bqM_dnm, bqM_persons, bqM_dishes, bqM_law, bqM_dogs, TB_.w_pnm, TB_.w_par, TB_.w_dnm, TB_.w_persons, TB_.w_dishes, TB_.w_law, TB_.w_dogs, sqM_sl, sqM_so, SP_.w_sl, SP_.w_so, tqM_by_, tqM_wd, tqM_tk, tqM_pl, tqM_vl, tqM_len, tqM_n, tqM_at_, tqM_token, tqM_place, tqM_value, tqM_fault, tqM_fat, TP_.w_by_, TP_.w_wd, TP_.w_tk, TP_.w_pl, TP_.w_vl, TP_.w_len, TP_.w_n, TP_.w_at_, TP_.w_token, TP_.w_place, TP_.w_value, TP_.w_fault, TP_.w_fat])⟩ dX7_readOne_133
          · skip
            have r_69 := (⟨(eq_rg (h_57) rc_19).1, (eq_rg (h_57) rc_19).2⟩ : Rg 19 19 x_12)
            refine g_aload_n C 1 dX7_readOne_96 rfl rfl ?_
            refine g_aload_n C 2 dX7_readOne_97 rfl rfl ?_
            refine g_aload_n C 3 dX7_readOne_98 rfl rfl ?_
            refine g_iload_n C 4 dX7_readOne_99 rfl rfl ?_
            refine g_iconst C (v := 1) dX7_readOne_100 (by decide) ?_
            obtain ⟨x_70, hx_70, rx_70, tx_70⟩ := ex_add 7 7 ra2 rc_1 (by decide) (by decide) (by decide) (by decide)
            refine g_iadd C (v := x_70) dX7_readOne_101 hx_70 ?_
            refine g_callVI C K (c_X7_readOne_7 W9 hLx hkx hLa0 hka0 hLa1 hka1 x_70 (rx_70) hUI_46) hLx hkx (by decide) rfl v_7_67 rfl ⟨rfl, rfl⟩ ⟨Nat.le_of_ble_eq_true rfl, Nat.le_of_ble_eq_true rfl⟩ (Nat.le_of_ble_eq_true rfl) ⟨Nat.le_of_ble_eq_true rfl, Nat.le_of_ble_eq_true rfl⟩ dX7_readOne_102 rfl (st := []) (fun x_71 I_72 J_73 h_74 => ?_)
            obtain ⟨hUI_72, hFI_72, hGJ_73, rx_71, fx_71⟩ := h_74
            have hF_75 := fq_tr hF_49 hFI_72 (by decide)
            have hG_76 := fq_tr hG_50 hGJ_73 (by decide)
            obtain ⟨s_78, hs_78⟩ : ∃ z, TPq I_72 J_73 a0 b_5 b_6 b_7 b_8 b_9 = z := ⟨_, rfl⟩
            obtain ⟨s_79, hs_79⟩ : ∃ z, SPq I_72 J_73 x = z := ⟨_, rfl⟩
            have c_77 : fOne 2 (s_4) (s_52) ((SP_.w_so s_11 (x_38))) = (x_71, s_78, s_79) := by have q := fx_71; simp only [ebqa1, etqa0, esqx, hs_53, hs_52, hs_54, hs_78, hs_79] at q; exact q.symm
            have hs_80 : TBq I_72 J_73 a1 b_1 b_2 b_3 = s_4 := (bq_fq wbqa1 hFI_72 hGJ_73 (by decide) (by decide)).trans hs_53
            refine g_if_eq C (tgt := 123) dX7_readOne_105 (by decide) (fun h_81 => ?_) (fun h_81 => ?_)
            · skip
              have r_82 := (⟨(rx_71).1, (eq_rg (h_81) rc_0).2⟩ : Rg 0 0 x_71)
              refine g_iconst C (v := 0) dX7_readOne_123 (by decide) ?_
              exact g_zret (ty := .boolean) (r := 0) B K rfl (rfl) ⟨hUI_72, hF_75, hG_76, rg_w rc_0 (by decide) (by decide), (by (try simp only [hx_12, f_13, c_18, h_19, hx_22, f_23, h_24, (nle h_24), h_37, hx_38, c_51, h_55, (eq_true h_57), hx_70, (eq_true h_81), if_true, if_false, bqM_pnm, bqM_par, bqM_dnm, bqM_persons, bqM_dishes, bqM_law, bqM_dogs, TB_.w_pnm, TB_.w_par, TB_.w_dnm, TB_.w_persons, TB_.w_dishes, TB_.w_law, TB_.w_dogs, sqM_sl, sqM_so, SP_.w_sl, SP_.w_so, tqM_by_, tqM_wd, tqM_tk, tqM_pl, tqM_vl, tqM_len, tqM_n, tqM_at_, tqM_token, tqM_place, tqM_value, tqM_fault, tqM_fat, TP_.w_by_, TP_.w_wd, TP_.w_tk, TP_.w_pl, TP_.w_vl, TP_.w_len, TP_.w_n, TP_.w_at_, TP_.w_token, TP_.w_place, TP_.w_value, TP_.w_fault, TP_.w_fat] at c_77); simp only [fOne_k3, fAnd2, fFailS, fCmp, ebqa1, hs_80, hs_4, etqa0, hs_78, hs_10, esqx, hs_79, hs_11, hx_12, f_13, c_18, h_19, hx_22, f_23, h_24, (nle h_24), h_37, hx_38, c_51, h_55, (eq_true h_57), hx_70, c_77, (eq_true h_81), if_true, if_false, bqM_pnm, bqM_par, bqM_dnm, bqM_persons, bqM_dishes, bqM_law, bqM_dogs, TB_.w_pnm, TB_.w_par, TB_.w_dnm, TB_.w_persons, TB_.w_dishes, TB_.w_law, TB_.w_dogs, sqM_sl, sqM_so, SP_.w_sl, SP_.w_so, tqM_by_, tqM_wd, tqM_tk, tqM_pl, tqM_vl, tqM_len, tqM_n, tqM_at_, tqM_token, tqM_place, tqM_value, tqM_fault, tqM_fat, TP_.w_by_, TP_.w_wd, TP_.w_tk, TP_.w_pl, TP_.w_vl, TP_.w_len, TP_.w_n, TP_.w_at_, TP_.w_token, TP_.w_place, TP_.w_value, TP_.w_fault, TP_.w_fat])⟩ dX7_readOne_124
            · skip
              have n_83 : ¬ x_71 = 0 := h_81
              have r_84 := ne_lo (lo := 1) n_83 rx_71 rc_0 rfl (by decide)
              refine g_aload_n C 1 dX7_readOne_108 rfl rfl ?_
              refine g_bipush C (v := 19) dX7_readOne_109 (by decide) ?_
              refine g_iconst C (v := 0) dX7_readOne_111 (by decide) ?_
              refine g_iconst C (v := 0) dX7_readOne_112 (by decide) ?_
              refine g_callVI C K (c_X7_addStep W9 hLx hkx 19 0 0 (rg_w rc_0 (by decide) (by decide)) hUI_72  (fun q => absurd q (by decide))) hLx hkx (by decide) rfl v_7_63 rfl ⟨rfl, rfl⟩ ⟨Nat.le_of_ble_eq_true rfl, Nat.le_of_ble_eq_true rfl⟩ (Nat.le_of_ble_eq_true rfl) ⟨Nat.le_of_ble_eq_true rfl, Nat.le_of_ble_eq_true rfl⟩ dX7_readOne_113 rfl (st := []) (fun x_85 I_86 J_87 h_88 => ?_)
              obtain ⟨hUI_86, hFI_86, hGJ_87, rx_85, fx_85⟩ := h_88
              have hF_89 := fq_tr hF_75 hFI_86 (by decide)
              have hG_90 := fq_tr hG_76 hGJ_87 (by decide)
              obtain ⟨s_92, hs_92⟩ : ∃ z, SPq I_86 J_87 x = z := ⟨_, rfl⟩
              have c_91 : fAddStep (s_79) = (x_85, s_92) := by have q := fx_85; simp only [esqx, hs_79, hs_92] at q; exact q.symm
              have hs_93 : TBq I_86 J_87 a1 b_1 b_2 b_3 = s_4 := (bq_fq wbqa1 hFI_86 hGJ_87 (by decide) (by decide)).trans hs_80
              have hs_94 : TPq I_86 J_87 a0 b_5 b_6 b_7 b_8 b_9 = s_78 := (tq_fq wtqa0 hFI_86 hGJ_87 (by decide) (by decide)).trans hs_78
              refine g_if_eq C (tgt := 123) dX7_readOne_116 (by decide) (fun h_95 => ?_) (fun h_95 => ?_)
              · skip
                have r_96 := (⟨(rx_85).1, (eq_rg (h_95) rc_0).2⟩ : Rg 0 0 x_85)
                refine g_iconst C (v := 0) dX7_readOne_123 (by decide) ?_
                exact g_zret (ty := .boolean) (r := 0) B K rfl (rfl) ⟨hUI_86, hF_89, hG_90, rg_w rc_0 (by decide) (by decide), (by (try simp only [hx_12, f_13, c_18, h_19, hx_22, f_23, h_24, (nle h_24), h_37, hx_38, c_51, h_55, (eq_true h_57), hx_70, h_81, c_91, (eq_true h_95), if_true, if_false, bqM_pnm, bqM_par, bqM_dnm, bqM_persons, bqM_dishes, bqM_law, bqM_dogs, TB_.w_pnm, TB_.w_par, TB_.w_dnm, TB_.w_persons, TB_.w_dishes, TB_.w_law, TB_.w_dogs, sqM_sl, sqM_so, SP_.w_sl, SP_.w_so, tqM_by_, tqM_wd, tqM_tk, tqM_pl, tqM_vl, tqM_len, tqM_n, tqM_at_, tqM_token, tqM_place, tqM_value, tqM_fault, tqM_fat, TP_.w_by_, TP_.w_wd, TP_.w_tk, TP_.w_pl, TP_.w_vl, TP_.w_len, TP_.w_n, TP_.w_at_, TP_.w_token, TP_.w_place, TP_.w_value, TP_.w_fault, TP_.w_fat] at c_77); simp only [fOne_k3, fAnd2, fFailS, fCmp, ebqa1, hs_93, hs_4, etqa0, hs_94, hs_10, esqx, hs_92, hs_11, hx_12, f_13, c_18, h_19, hx_22, f_23, h_24, (nle h_24), h_37, hx_38, c_51, h_55, (eq_true h_57), hx_70, c_77, h_81, c_91, (eq_true h_95), if_true, if_false, bqM_pnm, bqM_par, bqM_dnm, bqM_persons, bqM_dishes, bqM_law, bqM_dogs, TB_.w_pnm, TB_.w_par, TB_.w_dnm, TB_.w_persons, TB_.w_dishes, TB_.w_law, TB_.w_dogs, sqM_sl, sqM_so, SP_.w_sl, SP_.w_so, tqM_by_, tqM_wd, tqM_tk, tqM_pl, tqM_vl, tqM_len, tqM_n, tqM_at_, tqM_token, tqM_place, tqM_value, tqM_fault, tqM_fat, TP_.w_by_, TP_.w_wd, TP_.w_tk, TP_.w_pl, TP_.w_vl, TP_.w_len, TP_.w_n, TP_.w_at_, TP_.w_token, TP_.w_place, TP_.w_value, TP_.w_fault, TP_.w_fat])⟩ dX7_readOne_124
              · skip
                have n_97 : ¬ x_85 = 0 := h_95
                have r_98 := ne_lo (lo := 1) n_97 rx_85 rc_0 rfl (by decide)
                refine g_iconst C (v := 1) dX7_readOne_119 (by decide) ?_
                refine g_goto C (tgt := 124) dX7_readOne_120 (by decide) ?_
                exact g_zret (ty := .boolean) (r := 1) B K rfl (rfl) ⟨hUI_86, hF_89, hG_90, rg_w rc_1 (by decide) (by decide), (by (try simp only [hx_12, f_13, c_18, h_19, hx_22, f_23, h_24, (nle h_24), h_37, hx_38, c_51, h_55, (eq_true h_57), hx_70, h_81, c_91, h_95, if_true, if_false, bqM_pnm, bqM_par, bqM_dnm, bqM_persons, bqM_dishes, bqM_law, bqM_dogs, TB_.w_pnm, TB_.w_par, TB_.w_dnm, TB_.w_persons, TB_.w_dishes, TB_.w_law, TB_.w_dogs, sqM_sl, sqM_so, SP_.w_sl, SP_.w_so, tqM_by_, tqM_wd, tqM_tk, tqM_pl, tqM_vl, tqM_len, tqM_n, tqM_at_, tqM_token, tqM_place, tqM_value, tqM_fault, tqM_fat, TP_.w_by_, TP_.w_wd, TP_.w_tk, TP_.w_pl, TP_.w_vl, TP_.w_len, TP_.w_n, TP_.w_at_, TP_.w_token, TP_.w_place, TP_.w_value, TP_.w_fault, TP_.w_fat] at c_77); simp only [fOne_k3, fAnd2, fFailS, fCmp, ebqa1, hs_93, hs_4, etqa0, hs_94, hs_10, esqx, hs_92, hs_11, hx_12, f_13, c_18, h_19, hx_22, f_23, h_24, (nle h_24), h_37, hx_38, c_51, h_55, (eq_true h_57), hx_70, c_77, h_81, c_91, h_95, if_true, if_false, bqM_pnm, bqM_par, bqM_dnm, bqM_persons, bqM_dishes, bqM_law, bqM_dogs, TB_.w_pnm, TB_.w_par, TB_.w_dnm, TB_.w_persons, TB_.w_dishes, TB_.w_law, TB_.w_dogs, sqM_sl, sqM_so, SP_.w_sl, SP_.w_so, tqM_by_, tqM_wd, tqM_tk, tqM_pl, tqM_vl, tqM_len, tqM_n, tqM_at_, tqM_token, tqM_place, tqM_value, tqM_fault, tqM_fat, TP_.w_by_, TP_.w_wd, TP_.w_tk, TP_.w_pl, TP_.w_vl, TP_.w_len, TP_.w_n, TP_.w_at_, TP_.w_token, TP_.w_place, TP_.w_value, TP_.w_fault, TP_.w_fat])⟩ dX7_readOne_124
        · skip
          have r_99 := (⟨(eq_rg (h_55) rc_40).1, (eq_rg (h_55) rc_40).2⟩ : Rg 40 40 x_12)
          refine g_aload_n C 1 dX7_readOne_62 rfl rfl ?_
          refine g_aload_n C 2 dX7_readOne_63 rfl rfl ?_
          refine g_aload_n C 3 dX7_readOne_64 rfl rfl ?_
          refine g_iload_n C 4 dX7_readOne_65 rfl rfl ?_
          refine g_iconst C (v := 1) dX7_readOne_66 (by decide) ?_
          obtain ⟨x_100, hx_100, rx_100, tx_100⟩ := ex_add 7 7 ra2 rc_1 (by decide) (by decide) (by decide) (by decide)
          refine g_iadd C (v := x_100) dX7_readOne_67 hx_100 ?_
          refine g_callVI C K (c_X7_readCond_7 W9 hLx hkx hLa0 hka0 hLa1 hka1 x_100 (rx_100) hUI_46) hLx hkx (by decide) rfl v_7_46 rfl ⟨rfl, rfl⟩ ⟨Nat.le_of_ble_eq_true rfl, Nat.le_of_ble_eq_true rfl⟩ (Nat.le_of_ble_eq_true rfl) ⟨Nat.le_of_ble_eq_true rfl, Nat.le_of_ble_eq_true rfl⟩ dX7_readOne_68 rfl (st := []) (fun x_101 I_102 J_103 h_104 => ?_)
          obtain ⟨hUI_102, hFI_102, hGJ_103, rx_101, fx_101⟩ := h_104
          have hF_105 := fq_tr hF_49 hFI_102 (by decide)
          have hG_106 := fq_tr hG_50 hGJ_103 (by decide)
          obtain ⟨s_108, hs_108⟩ : ∃ z, TPq I_102 J_103 a0 b_5 b_6 b_7 b_8 b_9 = z := ⟨_, rfl⟩
          obtain ⟨s_109, hs_109⟩ : ∃ z, SPq I_102 J_103 x = z := ⟨_, rfl⟩
          have c_107 : fCond 2 (s_4) (s_52) ((SP_.w_so s_11 (x_38))) = (x_101, s_108, s_109) := by have q := fx_101; simp only [ebqa1, etqa0, esqx, hs_53, hs_52, hs_54, hs_108, hs_109] at q; exact q.symm
          have hs_110 : TBq I_102 J_103 a1 b_1 b_2 b_3 = s_4 := (bq_fq wbqa1 hFI_102 hGJ_103 (by decide) (by decide)).trans hs_53
          refine g_if_eq C (tgt := 87) dX7_readOne_71 (by decide) (fun h_111 => ?_) (fun h_111 => ?_)
          · skip
            have r_112 := (⟨(rx_101).1, (eq_rg (h_111) rc_0).2⟩ : Rg 0 0 x_101)
            refine g_iconst C (v := 0) dX7_readOne_87 (by decide) ?_
            exact g_zret (ty := .boolean) (r := 0) B K rfl (rfl) ⟨hUI_102, hF_105, hG_106, rg_w rc_0 (by decide) (by decide), (by (try simp only [hx_12, f_13, c_18, h_19, hx_22, f_23, h_24, (nle h_24), h_37, hx_38, c_51, (eq_true h_55), hx_100, (eq_true h_111), if_true, if_false, bqM_pnm, bqM_par, bqM_dnm, bqM_persons, bqM_dishes, bqM_law, bqM_dogs, TB_.w_pnm, TB_.w_par, TB_.w_dnm, TB_.w_persons, TB_.w_dishes, TB_.w_law, TB_.w_dogs, sqM_sl, sqM_so, SP_.w_sl, SP_.w_so, tqM_by_, tqM_wd, tqM_tk, tqM_pl, tqM_vl, tqM_len, tqM_n, tqM_at_, tqM_token, tqM_place, tqM_value, tqM_fault, tqM_fat, TP_.w_by_, TP_.w_wd, TP_.w_tk, TP_.w_pl, TP_.w_vl, TP_.w_len, TP_.w_n, TP_.w_at_, TP_.w_token, TP_.w_place, TP_.w_value, TP_.w_fault, TP_.w_fat] at c_107); simp only [fOne_k3, fAnd2, fFailS, fCmp, ebqa1, hs_110, hs_4, etqa0, hs_108, hs_10, esqx, hs_109, hs_11, hx_12, f_13, c_18, h_19, hx_22, f_23, h_24, (nle h_24), h_37, hx_38, c_51, (eq_true h_55), hx_100, c_107, (eq_true h_111), if_true, if_false, bqM_pnm, bqM_par, bqM_dnm, bqM_persons, bqM_dishes, bqM_law, bqM_dogs, TB_.w_pnm, TB_.w_par, TB_.w_dnm, TB_.w_persons, TB_.w_dishes, TB_.w_law, TB_.w_dogs, sqM_sl, sqM_so, SP_.w_sl, SP_.w_so, tqM_by_, tqM_wd, tqM_tk, tqM_pl, tqM_vl, tqM_len, tqM_n, tqM_at_, tqM_token, tqM_place, tqM_value, tqM_fault, tqM_fat, TP_.w_by_, TP_.w_wd, TP_.w_tk, TP_.w_pl, TP_.w_vl, TP_.w_len, TP_.w_n, TP_.w_at_, TP_.w_token, TP_.w_place, TP_.w_value, TP_.w_fault, TP_.w_fat])⟩ dX7_readOne_88
          · skip
            have n_113 : ¬ x_101 = 0 := h_111
            have r_114 := ne_lo (lo := 1) n_113 rx_101 rc_0 rfl (by decide)
            refine g_aload_n C 2 dX7_readOne_74 rfl rfl ?_
            refine g_bipush C (v := 41) dX7_readOne_75 (by decide) ?_
            refine g_callVI C K (c_X10_take W9 hLa0 hka0 41 (rg_w rc_41 (by decide) (by decide)) hUI_102) hLa0 hka0 (by decide) rfl v_7_50 rfl ⟨rfl, rfl⟩ ⟨Nat.le_of_ble_eq_true rfl, Nat.le_of_ble_eq_true rfl⟩ (Nat.le_of_ble_eq_true rfl) ⟨Nat.le_of_ble_eq_true rfl, Nat.le_of_ble_eq_true rfl⟩ dX7_readOne_77 rfl (st := []) (fun x_115 I_116 J_117 h_118 => ?_)
            obtain ⟨hUI_116, hFI_116, hGJ_117, rx_115, fx_115⟩ := h_118
            have hF_119 := fq_tr hF_105 hFI_116 (by decide)
            have hG_120 := fq_tr hG_106 hGJ_117 (by decide)
            obtain ⟨s_122, hs_122⟩ : ∃ z, TPq I_116 J_117 a0 b_5 b_6 b_7 b_8 b_9 = z := ⟨_, rfl⟩
            have c_121 : fTake (41) (s_108) = (x_115, s_122) := by have q := fx_115; simp only [etqa0, hs_108, hs_122] at q; exact q.symm
            have hs_123 : TBq I_116 J_117 a1 b_1 b_2 b_3 = s_4 := (bq_fq wbqa1 hFI_116 hGJ_117 (by decide) (by decide)).trans hs_110
            have hs_124 : SPq I_116 J_117 x = s_109 := (sq_fq wsqx hFI_116 hGJ_117 (by decide) (by decide)).trans hs_109
            refine g_if_eq C (tgt := 87) dX7_readOne_80 (by decide) (fun h_125 => ?_) (fun h_125 => ?_)
            · skip
              have r_126 := (⟨(rx_115).1, (eq_rg (h_125) rc_0).2⟩ : Rg 0 0 x_115)
              refine g_iconst C (v := 0) dX7_readOne_87 (by decide) ?_
              exact g_zret (ty := .boolean) (r := 0) B K rfl (rfl) ⟨hUI_116, hF_119, hG_120, rg_w rc_0 (by decide) (by decide), (by (try simp only [hx_12, f_13, c_18, h_19, hx_22, f_23, h_24, (nle h_24), h_37, hx_38, c_51, (eq_true h_55), hx_100, h_111, c_121, (eq_true h_125), if_true, if_false, bqM_pnm, bqM_par, bqM_dnm, bqM_persons, bqM_dishes, bqM_law, bqM_dogs, TB_.w_pnm, TB_.w_par, TB_.w_dnm, TB_.w_persons, TB_.w_dishes, TB_.w_law, TB_.w_dogs, sqM_sl, sqM_so, SP_.w_sl, SP_.w_so, tqM_by_, tqM_wd, tqM_tk, tqM_pl, tqM_vl, tqM_len, tqM_n, tqM_at_, tqM_token, tqM_place, tqM_value, tqM_fault, tqM_fat, TP_.w_by_, TP_.w_wd, TP_.w_tk, TP_.w_pl, TP_.w_vl, TP_.w_len, TP_.w_n, TP_.w_at_, TP_.w_token, TP_.w_place, TP_.w_value, TP_.w_fault, TP_.w_fat] at c_107); simp only [fOne_k3, fAnd2, fFailS, fCmp, ebqa1, hs_123, hs_4, etqa0, hs_122, hs_10, esqx, hs_124, hs_11, hx_12, f_13, c_18, h_19, hx_22, f_23, h_24, (nle h_24), h_37, hx_38, c_51, (eq_true h_55), hx_100, c_107, h_111, c_121, (eq_true h_125), if_true, if_false, bqM_pnm, bqM_par, bqM_dnm, bqM_persons, bqM_dishes, bqM_law, bqM_dogs, TB_.w_pnm, TB_.w_par, TB_.w_dnm, TB_.w_persons, TB_.w_dishes, TB_.w_law, TB_.w_dogs, sqM_sl, sqM_so, SP_.w_sl, SP_.w_so, tqM_by_, tqM_wd, tqM_tk, tqM_pl, tqM_vl, tqM_len, tqM_n, tqM_at_, tqM_token, tqM_place, tqM_value, tqM_fault, tqM_fat, TP_.w_by_, TP_.w_wd, TP_.w_tk, TP_.w_pl, TP_.w_vl, TP_.w_len, TP_.w_n, TP_.w_at_, TP_.w_token, TP_.w_place, TP_.w_value, TP_.w_fault, TP_.w_fat])⟩ dX7_readOne_88
            · skip
              have n_127 : ¬ x_115 = 0 := h_125
              have r_128 := ne_lo (lo := 1) n_127 rx_115 rc_0 rfl (by decide)
              refine g_iconst C (v := 1) dX7_readOne_83 (by decide) ?_
              refine g_goto C (tgt := 88) dX7_readOne_84 (by decide) ?_
              exact g_zret (ty := .boolean) (r := 1) B K rfl (rfl) ⟨hUI_116, hF_119, hG_120, rg_w rc_1 (by decide) (by decide), (by (try simp only [hx_12, f_13, c_18, h_19, hx_22, f_23, h_24, (nle h_24), h_37, hx_38, c_51, (eq_true h_55), hx_100, h_111, c_121, h_125, if_true, if_false, bqM_pnm, bqM_par, bqM_dnm, bqM_persons, bqM_dishes, bqM_law, bqM_dogs, TB_.w_pnm, TB_.w_par, TB_.w_dnm, TB_.w_persons, TB_.w_dishes, TB_.w_law, TB_.w_dogs, sqM_sl, sqM_so, SP_.w_sl, SP_.w_so, tqM_by_, tqM_wd, tqM_tk, tqM_pl, tqM_vl, tqM_len, tqM_n, tqM_at_, tqM_token, tqM_place, tqM_value, tqM_fault, tqM_fat, TP_.w_by_, TP_.w_wd, TP_.w_tk, TP_.w_pl, TP_.w_vl, TP_.w_len, TP_.w_n, TP_.w_at_, TP_.w_token, TP_.w_place, TP_.w_value, TP_.w_fault, TP_.w_fat] at c_107); simp only [fOne_k3, fAnd2, fFailS, fCmp, ebqa1, hs_123, hs_4, etqa0, hs_122, hs_10, esqx, hs_124, hs_11, hx_12, f_13, c_18, h_19, hx_22, f_23, h_24, (nle h_24), h_37, hx_38, c_51, (eq_true h_55), hx_100, c_107, h_111, c_121, h_125, if_true, if_false, bqM_pnm, bqM_par, bqM_dnm, bqM_persons, bqM_dishes, bqM_law, bqM_dogs, TB_.w_pnm, TB_.w_par, TB_.w_dnm, TB_.w_persons, TB_.w_dishes, TB_.w_law, TB_.w_dogs, sqM_sl, sqM_so, SP_.w_sl, SP_.w_so, tqM_by_, tqM_wd, tqM_tk, tqM_pl, tqM_vl, tqM_len, tqM_n, tqM_at_, tqM_token, tqM_place, tqM_value, tqM_fault, tqM_fat, TP_.w_by_, TP_.w_wd, TP_.w_tk, TP_.w_pl, TP_.w_vl, TP_.w_len, TP_.w_n, TP_.w_at_, TP_.w_token, TP_.w_place, TP_.w_value, TP_.w_fault, TP_.w_fat])⟩ dX7_readOne_88
      · skip
        have r_129 := lt_r (lo := 9) (nle h_37) rc_8 ra2 (by decide)
        exact rg_no r_129 (by decide)
  · skip
    have r_130 := (⟨(rx_14).1, (eq_rg (h_19) rc_0).2⟩ : Rg 0 0 x_14)
    refine g_aload_n C 2 dX7_readOne_14 rfl rfl ?_
    refine g_iconst C (v := 1) dX7_readOne_15 (by decide) ?_
    refine g_callVI C K (c_X10_fail W9 hLa0 hka0 1 (rg_w rc_1 (by decide) (by decide)) hU) hLa0 hka0 (by decide) rfl v_7_73 rfl ⟨rfl, rfl⟩ ⟨Nat.le_of_ble_eq_true rfl, Nat.le_of_ble_eq_true rfl⟩ (Nat.le_of_ble_eq_true rfl) ⟨Nat.le_of_ble_eq_true rfl, Nat.le_of_ble_eq_true rfl⟩ dX7_readOne_16 rfl (st := []) (fun x_131 I_132 J_133 h_134 => ?_)
    obtain ⟨hUI_132, hFI_132, hGJ_133, rx_131, fx_131⟩ := h_134
    have hF_135 := fq_tr hF hFI_132 (by decide)
    have hG_136 := fq_tr hG hGJ_133 (by decide)
    obtain ⟨s_138, hs_138⟩ : ∃ z, TPq I_132 J_133 a0 b_5 b_6 b_7 b_8 b_9 = z := ⟨_, rfl⟩
    have c_137 : fFail (1) (s_10) = (x_131, s_138) := by have q := fx_131; simp only [etqa0, hs_10, hs_138] at q; exact q.symm
    have hs_139 : TBq I_132 J_133 a1 b_1 b_2 b_3 = s_4 := (bq_fq wbqa1 hFI_132 hGJ_133 (by decide) (by decide)).trans hs_4
    have hs_140 : SPq I_132 J_133 x = s_11 := (sq_fq wsqx hFI_132 hGJ_133 (by decide) (by decide)).trans hs_11
    exact g_zret (ty := .boolean) (r := x_131) B K rfl (nar_z (rg_w rx_131 (by decide) (by decide))) ⟨hUI_132, hF_135, hG_136, rg_w rx_131 (by decide) (by decide), (by simp only [fOne_k3, fAnd2, fFailS, fCmp, ebqa1, hs_139, hs_4, etqa0, hs_138, hs_10, esqx, hs_140, hs_11, hx_12, f_13, c_18, (eq_true h_19), c_137, if_true, if_false, bqM_pnm, bqM_par, bqM_dnm, bqM_persons, bqM_dishes, bqM_law, bqM_dogs, TB_.w_pnm, TB_.w_par, TB_.w_dnm, TB_.w_persons, TB_.w_dishes, TB_.w_law, TB_.w_dogs, sqM_sl, sqM_so, SP_.w_sl, SP_.w_so, tqM_by_, tqM_wd, tqM_tk, tqM_pl, tqM_vl, tqM_len, tqM_n, tqM_at_, tqM_token, tqM_place, tqM_value, tqM_fault, tqM_fat, TP_.w_by_, TP_.w_wd, TP_.w_tk, TP_.w_pl, TP_.w_vl, TP_.w_len, TP_.w_n, TP_.w_at_, TP_.w_token, TP_.w_place, TP_.w_value, TP_.w_fault, TP_.w_fat])⟩ dX7_readOne_19
set_option maxRecDepth 100000 in
set_option maxHeartbeats 8000000 in
theorem c_X7_readAll_6 {l : Launch} {D : va_G} {cy : Nat → ClassId} {L : List Nat} {κ ln : Nat → Nat} {R : Nat → Nat → Option Nat} {I : Nat → Nat → Int32} {J : Nat → Nat → Int64} {ow : Nat → Nat × Nat} (W9 : ∀ a ∈ L, Shp L κ ln R ow a) {x : Nat} (hLx : x ∈ L) (hkx : κ x = 7) {a0 : Nat} (hLa0 : a0 ∈ L) (hka0 : κ a0 = 10) {a1 : Nat} (hLa1 : a1 ∈ L) (hka1 : κ a1 = 8) (a2 : Int32) (ra2 : Rg 6 6 a2) (hU : Iv L κ R ow I) : CtI l yX7_readAll cX7_readAll 6 (some .boolean) { frames := 11, cells := 0, slots := 0, locals := 267 } D cy L κ ln R I J [.ref x, .ref a0, .ref a1, .int a2] (fun r I2 J2 => Iv L κ R ow I2 ∧ Fq L κ ow [704, 705, 1007, 1008, 1009, 1011, 1012, 52000, 52100, 52200] I I2 ∧ Fq L κ ow [1010] J J2 ∧ Rg 0 1 r ∧ ((r, TPf R I2 J2 a0, SPf R I2 J2 x) = fAll 3 (TBf R I J a1) (TPf R I J a0) (SPf R I J x))) := by
  refine CtI.of (by decide +kernel) (Nat.le_of_ble_eq_true rfl) ?_
  intro p e s m below meth c B K
  have C := B.1
  have hF : Fq L κ ow [704, 705, 1007, 1008, 1009, 1011, 1012, 52000, 52100, 52200] I I := fq_rf
  have hG : Fq L κ ow [1010] J J := fq_rf
  obtain ⟨b_1, hb_1, hb_1L, hb_1k, hb_1n, hb_1o⟩ := shp_a (W9 a1 hLa1) hka1 0 15 7 rfl (by decide)
  obtain ⟨b_2, hb_2, hb_2L, hb_2k, hb_2n, hb_2o⟩ := shp_a (W9 a1 hLa1) hka1 2 14 7 rfl (by decide)
  obtain ⟨b_3, hb_3, hb_3L, hb_3k, hb_3n, hb_3o⟩ := shp_a (W9 a1 hLa1) hka1 3 15 6 rfl (by decide)
  have ebqa1 : ∀ I J, TBf R I J a1 = TBq I J a1 b_1 b_2 b_3 := fun I J => by simp only [TBf, rr_, Option.getD_some, hb_1, hb_2, hb_3]
  have wbqa1 : bqw_ L κ ow a1 b_1 b_2 b_3 := ⟨⟨hLa1, hb_1L, hb_2L, hb_3L⟩, ⟨(ro_o hka1 (by decide)), (ro_a hb_1k (by decide) hb_1o hka1 rfl), (ro_a hb_2k (by decide) hb_2o hka1 rfl), (ro_a hb_3k (by decide) hb_3o hka1 rfl)⟩⟩
  obtain ⟨s_4, hs_4⟩ : ∃ z, TBq I J a1 b_1 b_2 b_3 = z := ⟨_, rfl⟩
  obtain ⟨b_5, hb_5, hb_5L, hb_5k, hb_5n, hb_5o⟩ := shp_a (W9 a0 hLa0) hka0 0 13 940 rfl (by decide)
  obtain ⟨b_6, hb_6, hb_6L, hb_6k, hb_6n, hb_6o⟩ := shp_a (W9 a0 hLa0) hka0 1 15 28 rfl (by decide)
  obtain ⟨b_7, hb_7, hb_7L, hb_7k, hb_7n, hb_7o⟩ := shp_a (W9 a0 hLa0) hka0 2 14 901 rfl (by decide)
  obtain ⟨b_8, hb_8, hb_8L, hb_8k, hb_8n, hb_8o⟩ := shp_a (W9 a0 hLa0) hka0 3 14 901 rfl (by decide)
  obtain ⟨b_9, hb_9, hb_9L, hb_9k, hb_9n, hb_9o⟩ := shp_a (W9 a0 hLa0) hka0 4 15 901 rfl (by decide)
  have etqa0 : ∀ I J, TPf R I J a0 = TPq I J a0 b_5 b_6 b_7 b_8 b_9 := fun I J => by simp only [TPf, rr_, Option.getD_some, hb_5, hb_6, hb_7, hb_8, hb_9]
  have wtqa0 : tqw_ L κ ow a0 b_5 b_6 b_7 b_8 b_9 := ⟨⟨hLa0, hb_5L, hb_6L, hb_7L, hb_8L, hb_9L⟩, ⟨(ro_o hka0 (by decide)), (ro_a hb_5k (by decide) hb_5o hka0 rfl), (ro_a hb_6k (by decide) hb_6o hka0 rfl), (ro_a hb_7k (by decide) hb_7o hka0 rfl), (ro_a hb_8k (by decide) hb_8o hka0 rfl), (ro_a hb_9k (by decide) hb_9o hka0 rfl)⟩⟩
  obtain ⟨s_10, hs_10⟩ : ∃ z, TPq I J a0 b_5 b_6 b_7 b_8 b_9 = z := ⟨_, rfl⟩
  have esqx : ∀ I J, SPf R I J x = SPq I J x := fun I J => by simp only [SPf, rr_, Option.getD_some]
  have wsqx : sqw_ L κ ow x := ⟨hLx, (ro_o hkx (by decide))⟩
  obtain ⟨s_11, hs_11⟩ : ∃ z, SPq I J x = z := ⟨_, rfl⟩
  refine g_lo (is := [0, 1, 2, 3]) (lo2 := [(0, .ref x), (1, .ref a0), (2, .ref a1), (3, .int a2)]) rfl ?_
  have l_12 : ∀ (n_12 : Nat) (I_12 : Nat → Nat → Int32) (J_13 : Nat → Nat → Int64) (hU_14 : Iv L κ R ow I_12) (hF_15 : Fq L κ ow [704, 705, 1007, 1008, 1009, 1011, 1012, 52000, 52100, 52200] I I_12) (hG_16 : Fq L κ ow [1010] J J_13) (v_17 : Int32) (rv_17 : Rg 0 1 v_17) (v_18 : Int32) (rv_18 : Rg 0 20 v_18) (hq_19 : fLp (fOne 3 (TBq I_12 J_13 a1 b_1 b_2 b_3)) 18 v_18 v_17 (TPq I_12 J_13 a0 b_5 b_6 b_7 b_8 b_9) (SPq I_12 J_13 x) = fAll 3 s_4 s_10 s_11) (hm_20 : 20 < (v_18 : Int32).toInt + (n_12 : Int)), WG p l e { frames := 11, cells := 0, slots := 0, locals := 267 } s m ([.ref x, .ref a0, .ref a1, .int a2] : List Value).toArray below meth c 6 0 0 (MQ below (Qi_ D cy L κ ln R (fun r I2 J2 => Iv L κ R ow I2 ∧ Fq L κ ow [704, 705, 1007, 1008, 1009, 1011, 1012, 52000, 52100, 52200] I I2 ∧ Fq L κ ow [1010] J J2 ∧ Rg 0 1 r ∧ ((r, TPf R I2 J2 a0, SPf R I2 J2 x) = fAll 3 (TBf R I J a1) (TPf R I J a0) (SPf R I J x)))) ([.ref x, .ref a0, .ref a1, .int a2] : List Value).toArray s 0 0 (Al_ L)) D cy (Al_ L) s.heap L κ ln R I_12 J_13 12 [(0, .ref x), (1, .ref a0), (2, .ref a1), (3, .int a2), (4, .int v_17), (5, .int v_18)] [] := by
    intro n_12
    induction n_12 with
    | zero =>
      intro I_12 J_13 hU_14 hF_15 hG_16 v_17 rv_17 v_18 rv_18 hq_19 hm_20
      exact ms_0 rv_18 hm_20
    | succ n_12 ih_12 =>
      intro I_12 J_13 hU_14 hF_15 hG_16 v_17 rv_17 v_18 rv_18 hq_19 hm_20
      obtain ⟨s_21, hs_21⟩ : ∃ z, TBq I_12 J_13 a1 b_1 b_2 b_3 = z := ⟨_, rfl⟩
      obtain ⟨s_22, hs_22⟩ : ∃ z, TPq I_12 J_13 a0 b_5 b_6 b_7 b_8 b_9 = z := ⟨_, rfl⟩
      obtain ⟨s_23, hs_23⟩ : ∃ z, SPq I_12 J_13 x = z := ⟨_, rfl⟩
      simp only [hs_21, hs_22, hs_23] at hq_19
      have hQ_24 := hq_19.symm
      have u_25 := fLp_eq (rd := fOne 3 s_21) (k := 18) (i := v_18) (r := v_17) (t := s_22) (s := s_23) (rv_18)
      refine g_iload C 5 dX7_readAll_12 rfl ?_
      refine g_bipush C (v := 20) dX7_readAll_14 (by decide) ?_
      refine g_icmp_ge C (tgt := 71) dX7_readAll_16 (by decide) (fun h_26 => ?_) (fun h_26 => ?_)
      · skip
        have r_27 := le_r (h_26) rc_20 rv_18
        refine g_iload C 4 dX7_readAll_71 rfl ?_
        exact g_zret (ty := .boolean) (r := v_17) B K rfl (nar_z (rv_17)) ⟨hU_14, hF_15, hG_16, rv_17, (by (try simp only [h_26, if_true, if_false, bqM_pnm, bqM_par, bqM_dnm, bqM_persons, bqM_dishes, bqM_law, bqM_dogs, TB_.w_pnm, TB_.w_par, TB_.w_dnm, TB_.w_persons, TB_.w_dishes, TB_.w_law, TB_.w_dogs, sqM_sl, sqM_so, SP_.w_sl, SP_.w_so, tqM_by_, tqM_wd, tqM_tk, tqM_pl, tqM_vl, tqM_len, tqM_n, tqM_at_, tqM_token, tqM_place, tqM_value, tqM_fault, tqM_fat, TP_.w_by_, TP_.w_wd, TP_.w_tk, TP_.w_pl, TP_.w_vl, TP_.w_len, TP_.w_n, TP_.w_at_, TP_.w_token, TP_.w_place, TP_.w_value, TP_.w_fault, TP_.w_fat] at hQ_24); (try simp only [h_26, if_true, if_false, bqM_pnm, bqM_par, bqM_dnm, bqM_persons, bqM_dishes, bqM_law, bqM_dogs, TB_.w_pnm, TB_.w_par, TB_.w_dnm, TB_.w_persons, TB_.w_dishes, TB_.w_law, TB_.w_dogs, sqM_sl, sqM_so, SP_.w_sl, SP_.w_so, tqM_by_, tqM_wd, tqM_tk, tqM_pl, tqM_vl, tqM_len, tqM_n, tqM_at_, tqM_token, tqM_place, tqM_value, tqM_fault, tqM_fat, TP_.w_by_, TP_.w_wd, TP_.w_tk, TP_.w_pl, TP_.w_vl, TP_.w_len, TP_.w_n, TP_.w_at_, TP_.w_token, TP_.w_place, TP_.w_value, TP_.w_fault, TP_.w_fat] at u_25); simp only [ebqa1, hs_21, hs_4, etqa0, hs_22, hs_10, esqx, hs_23, hs_11, hQ_24, u_25, h_26, if_true, if_false, bqM_pnm, bqM_par, bqM_dnm, bqM_persons, bqM_dishes, bqM_law, bqM_dogs, TB_.w_pnm, TB_.w_par, TB_.w_dnm, TB_.w_persons, TB_.w_dishes, TB_.w_law, TB_.w_dogs, sqM_sl, sqM_so, SP_.w_sl, SP_.w_so, tqM_by_, tqM_wd, tqM_tk, tqM_pl, tqM_vl, tqM_len, tqM_n, tqM_at_, tqM_token, tqM_place, tqM_value, tqM_fault, tqM_fat, TP_.w_by_, TP_.w_wd, TP_.w_tk, TP_.w_pl, TP_.w_vl, TP_.w_len, TP_.w_n, TP_.w_at_, TP_.w_token, TP_.w_place, TP_.w_value, TP_.w_fault, TP_.w_fat])⟩ dX7_readAll_73
      · skip
        have r_28 := lt_l (hi := 19) (nle h_26) rv_18 rc_20 (by decide)
        refine g_iload C 4 dX7_readAll_19 rfl ?_
        refine g_if_eq C (tgt := 71) dX7_readAll_21 (by decide) (fun h_29 => ?_) (fun h_29 => ?_)
        · skip
          have r_30 := (⟨(rv_17).1, (eq_rg (h_29) rc_0).2⟩ : Rg 0 0 v_17)
          refine g_iload C 4 dX7_readAll_71 rfl ?_
          exact g_zret (ty := .boolean) (r := v_17) B K rfl (nar_z (rg_w r_30 (by decide) (by decide))) ⟨hU_14, hF_15, hG_16, rg_w r_30 (by decide) (by decide), (by (try simp only [h_26, (nle h_26), (eq_true h_29), if_true, if_false, bqM_pnm, bqM_par, bqM_dnm, bqM_persons, bqM_dishes, bqM_law, bqM_dogs, TB_.w_pnm, TB_.w_par, TB_.w_dnm, TB_.w_persons, TB_.w_dishes, TB_.w_law, TB_.w_dogs, sqM_sl, sqM_so, SP_.w_sl, SP_.w_so, tqM_by_, tqM_wd, tqM_tk, tqM_pl, tqM_vl, tqM_len, tqM_n, tqM_at_, tqM_token, tqM_place, tqM_value, tqM_fault, tqM_fat, TP_.w_by_, TP_.w_wd, TP_.w_tk, TP_.w_pl, TP_.w_vl, TP_.w_len, TP_.w_n, TP_.w_at_, TP_.w_token, TP_.w_place, TP_.w_value, TP_.w_fault, TP_.w_fat] at hQ_24); (try simp only [h_26, (nle h_26), (eq_true h_29), if_true, if_false, bqM_pnm, bqM_par, bqM_dnm, bqM_persons, bqM_dishes, bqM_law, bqM_dogs, TB_.w_pnm, TB_.w_par, TB_.w_dnm, TB_.w_persons, TB_.w_dishes, TB_.w_law, TB_.w_dogs, sqM_sl, sqM_so, SP_.w_sl, SP_.w_so, tqM_by_, tqM_wd, tqM_tk, tqM_pl, tqM_vl, tqM_len, tqM_n, tqM_at_, tqM_token, tqM_place, tqM_value, tqM_fault, tqM_fat, TP_.w_by_, TP_.w_wd, TP_.w_tk, TP_.w_pl, TP_.w_vl, TP_.w_len, TP_.w_n, TP_.w_at_, TP_.w_token, TP_.w_place, TP_.w_value, TP_.w_fault, TP_.w_fat] at u_25); simp only [ebqa1, hs_21, hs_4, etqa0, hs_22, hs_10, esqx, hs_23, hs_11, hQ_24, u_25, h_26, (nle h_26), (eq_true h_29), if_true, if_false, bqM_pnm, bqM_par, bqM_dnm, bqM_persons, bqM_dishes, bqM_law, bqM_dogs, TB_.w_pnm, TB_.w_par, TB_.w_dnm, TB_.w_persons, TB_.w_dishes, TB_.w_law, TB_.w_dogs, sqM_sl, sqM_so, SP_.w_sl, SP_.w_so, tqM_by_, tqM_wd, tqM_tk, tqM_pl, tqM_vl, tqM_len, tqM_n, tqM_at_, tqM_token, tqM_place, tqM_value, tqM_fault, tqM_fat, TP_.w_by_, TP_.w_wd, TP_.w_tk, TP_.w_pl, TP_.w_vl, TP_.w_len, TP_.w_n, TP_.w_at_, TP_.w_token, TP_.w_place, TP_.w_value, TP_.w_fault, TP_.w_fat])⟩ dX7_readAll_73
        · skip
          have n_31 : ¬ v_17 = 0 := h_29
          have r_32 := ne_lo (lo := 1) n_31 rv_17 rc_0 rfl (by decide)
          refine g_aload_n C 1 dX7_readAll_24 rfl rfl ?_
          obtain ⟨x_33, hx_33, rx_33⟩ := ex_get (I := I_12) (a := a0) (j := 8) (lo := (-2147483648)) (hi := 2147483647) hU_14.1 hLa0 (ro_o hka0 (by decide)) rfl
          have f_34 : s_22.token = x_33 := (congrArg TP_.token hs_22).symm.trans hx_33
          refine g_getI C K hLa0 hka0 f_7_57 (v := x_33) hx_33 dX7_readAll_25 ?_
          refine g_bipush C (v := 18) dX7_readAll_28 (by decide) ?_
          refine g_icmp_ne C (tgt := 71) dX7_readAll_30 (by decide) (fun h_35 => ?_) (fun h_35 => ?_)
          · skip
            have n_36 : ¬ x_33 = 18 := h_35
            refine g_iload C 4 dX7_readAll_71 rfl ?_
            exact g_zret (ty := .boolean) (r := v_17) B K rfl (nar_z (rg_w r_32 (by decide) (by decide))) ⟨hU_14, hF_15, hG_16, rg_w r_32 (by decide) (by decide), (by (try simp only [h_26, (nle h_26), h_29, hx_33, f_34, h_35, if_true, if_false, bqM_pnm, bqM_par, bqM_dnm, bqM_persons, bqM_dishes, bqM_law, bqM_dogs, TB_.w_pnm, TB_.w_par, TB_.w_dnm, TB_.w_persons, TB_.w_dishes, TB_.w_law, TB_.w_dogs, sqM_sl, sqM_so, SP_.w_sl, SP_.w_so, tqM_by_, tqM_wd, tqM_tk, tqM_pl, tqM_vl, tqM_len, tqM_n, tqM_at_, tqM_token, tqM_place, tqM_value, tqM_fault, tqM_fat, TP_.w_by_, TP_.w_wd, TP_.w_tk, TP_.w_pl, TP_.w_vl, TP_.w_len, TP_.w_n, TP_.w_at_, TP_.w_token, TP_.w_place, TP_.w_value, TP_.w_fault, TP_.w_fat] at hQ_24); (try simp only [h_26, (nle h_26), h_29, hx_33, f_34, h_35, if_true, if_false, bqM_pnm, bqM_par, bqM_dnm, bqM_persons, bqM_dishes, bqM_law, bqM_dogs, TB_.w_pnm, TB_.w_par, TB_.w_dnm, TB_.w_persons, TB_.w_dishes, TB_.w_law, TB_.w_dogs, sqM_sl, sqM_so, SP_.w_sl, SP_.w_so, tqM_by_, tqM_wd, tqM_tk, tqM_pl, tqM_vl, tqM_len, tqM_n, tqM_at_, tqM_token, tqM_place, tqM_value, tqM_fault, tqM_fat, TP_.w_by_, TP_.w_wd, TP_.w_tk, TP_.w_pl, TP_.w_vl, TP_.w_len, TP_.w_n, TP_.w_at_, TP_.w_token, TP_.w_place, TP_.w_value, TP_.w_fault, TP_.w_fat] at u_25); simp only [ebqa1, hs_21, hs_4, etqa0, hs_22, hs_10, esqx, hs_23, hs_11, hQ_24, u_25, h_26, (nle h_26), h_29, hx_33, f_34, h_35, if_true, if_false, bqM_pnm, bqM_par, bqM_dnm, bqM_persons, bqM_dishes, bqM_law, bqM_dogs, TB_.w_pnm, TB_.w_par, TB_.w_dnm, TB_.w_persons, TB_.w_dishes, TB_.w_law, TB_.w_dogs, sqM_sl, sqM_so, SP_.w_sl, SP_.w_so, tqM_by_, tqM_wd, tqM_tk, tqM_pl, tqM_vl, tqM_len, tqM_n, tqM_at_, tqM_token, tqM_place, tqM_value, tqM_fault, tqM_fat, TP_.w_by_, TP_.w_wd, TP_.w_tk, TP_.w_pl, TP_.w_vl, TP_.w_len, TP_.w_n, TP_.w_at_, TP_.w_token, TP_.w_place, TP_.w_value, TP_.w_fault, TP_.w_fat])⟩ dX7_readAll_73
          · skip
            have r_37 := (⟨(eq_rg (h_35) rc_18).1, (eq_rg (h_35) rc_18).2⟩ : Rg 18 18 x_33)
            refine g_aload_n C 1 dX7_readAll_33 rfl rfl ?_
            refine g_callVV C K (c_X10_advance W9 hLa0 hka0   hU_14) hLa0 hka0 (by decide) rfl v_7_60 rfl ⟨rfl, rfl⟩ ⟨Nat.le_of_ble_eq_true rfl, Nat.le_of_ble_eq_true rfl⟩ (Nat.le_of_ble_eq_true rfl) ⟨Nat.le_of_ble_eq_true rfl, Nat.le_of_ble_eq_true rfl⟩ dX7_readAll_34 rfl (st := []) (fun I_39 J_40 h_41 => ?_)
            obtain ⟨hUI_39, hFI_39, hGJ_40, fx_38⟩ := h_41
            have hF_42 := fq_tr hF_15 hFI_39 (by decide)
            have hG_43 := fq_tr hG_16 hGJ_40 (by decide)
            obtain ⟨s_45, hs_45⟩ : ∃ z, TPq I_39 J_40 a0 b_5 b_6 b_7 b_8 b_9 = z := ⟨_, rfl⟩
            have c_44 : fAdvance (s_22) = s_45 := by have q := fx_38; simp only [etqa0, hs_22, hs_45] at q; exact q.symm
            have hs_46 : TBq I_39 J_40 a1 b_1 b_2 b_3 = s_21 := (bq_fq wbqa1 hFI_39 hGJ_40 (by decide) (by decide)).trans hs_21
            have hs_47 : SPq I_39 J_40 x = s_23 := (sq_fq wsqx hFI_39 hGJ_40 (by decide) (by decide)).trans hs_23
            refine g_aload_n C 0 dX7_readAll_37 rfl rfl ?_
            refine g_aload_n C 1 dX7_readAll_38 rfl rfl ?_
            refine g_aload_n C 2 dX7_readAll_39 rfl rfl ?_
            refine g_iload_n C 3 dX7_readAll_40 rfl rfl ?_
            refine g_callVI C K (c_X7_readOne_6 W9 hLx hkx hLa0 hka0 hLa1 hka1 a2 (ra2) hUI_39) hLx hkx (by decide) rfl v_7_67 rfl ⟨rfl, rfl⟩ ⟨Nat.le_of_ble_eq_true rfl, Nat.le_of_ble_eq_true rfl⟩ (Nat.le_of_ble_eq_true rfl) ⟨Nat.le_of_ble_eq_true rfl, Nat.le_of_ble_eq_true rfl⟩ dX7_readAll_41 rfl (st := []) (fun x_48 I_49 J_50 h_51 => ?_)
            obtain ⟨hUI_49, hFI_49, hGJ_50, rx_48, fx_48⟩ := h_51
            have hF_52 := fq_tr hF_42 hFI_49 (by decide)
            have hG_53 := fq_tr hG_43 hGJ_50 (by decide)
            obtain ⟨s_55, hs_55⟩ : ∃ z, TPq I_49 J_50 a0 b_5 b_6 b_7 b_8 b_9 = z := ⟨_, rfl⟩
            obtain ⟨s_56, hs_56⟩ : ∃ z, SPq I_49 J_50 x = z := ⟨_, rfl⟩
            have c_54 : fOne 3 (s_21) (s_45) (s_23) = (x_48, s_55, s_56) := by have q := fx_48; simp only [ebqa1, etqa0, esqx, hs_46, hs_45, hs_47, hs_55, hs_56] at q; exact q.symm
            have hs_57 : TBq I_49 J_50 a1 b_1 b_2 b_3 = s_21 := (bq_fq wbqa1 hFI_49 hGJ_50 (by decide) (by decide)).trans hs_46
            refine g_if_eq C (tgt := 62) dX7_readAll_44 (by decide) (fun h_58 => ?_) (fun h_58 => ?_)
            · skip
              have r_59 := (⟨(rx_48).1, (eq_rg (h_58) rc_0).2⟩ : Rg 0 0 x_48)
              refine g_iconst C (v := 0) dX7_readAll_62 (by decide) ?_
              refine g_istore C dX7_readAll_63 (by decide) (lo2 := [(4, .int 0), (0, .ref x), (1, .ref a0), (2, .ref a1), (3, .int a2), (5, .int v_18)]) rfl ?_
              obtain ⟨x_60, hx_60, rx_60, tx_60⟩ := ex_add (y := 1) 1 20 r_28 rc_1 (by decide) (by decide) (by decide) (by decide)
              refine g_iinc C dX7_readAll_65 (k := 5) (v := x_60) rfl hx_60 (by decide) (lo2 := [(5, .int x_60), (4, .int 0), (0, .ref x), (1, .ref a0), (2, .ref a1), (3, .int a2)]) rfl ?_
              refine g_goto C (tgt := 12) dX7_readAll_68 (by decide) ?_
              refine g_lo (is := [2, 3, 4, 5, 1, 0]) (lo2 := [(0, .ref x), (1, .ref a0), (2, .ref a1), (3, .int a2), (4, .int 0), (5, .int x_60)]) rfl ?_
              exact ih_12 I_49 J_50 hUI_49 hF_52 hG_53 0 (rg_w rc_0 (by decide) (by decide)) x_60 (rg_w rx_60 (by decide) (by decide)) (by (try simp only [h_26, (nle h_26), h_29, hx_33, f_34, (eq_true h_35), c_44, c_54, (eq_true h_58), hx_60, if_true, if_false, bqM_pnm, bqM_par, bqM_dnm, bqM_persons, bqM_dishes, bqM_law, bqM_dogs, TB_.w_pnm, TB_.w_par, TB_.w_dnm, TB_.w_persons, TB_.w_dishes, TB_.w_law, TB_.w_dogs, sqM_sl, sqM_so, SP_.w_sl, SP_.w_so, tqM_by_, tqM_wd, tqM_tk, tqM_pl, tqM_vl, tqM_len, tqM_n, tqM_at_, tqM_token, tqM_place, tqM_value, tqM_fault, tqM_fat, TP_.w_by_, TP_.w_wd, TP_.w_tk, TP_.w_pl, TP_.w_vl, TP_.w_len, TP_.w_n, TP_.w_at_, TP_.w_token, TP_.w_place, TP_.w_value, TP_.w_fault, TP_.w_fat] at hQ_24); (try simp only [h_26, (nle h_26), h_29, hx_33, f_34, (eq_true h_35), c_44, c_54, (eq_true h_58), hx_60, if_true, if_false, bqM_pnm, bqM_par, bqM_dnm, bqM_persons, bqM_dishes, bqM_law, bqM_dogs, TB_.w_pnm, TB_.w_par, TB_.w_dnm, TB_.w_persons, TB_.w_dishes, TB_.w_law, TB_.w_dogs, sqM_sl, sqM_so, SP_.w_sl, SP_.w_so, tqM_by_, tqM_wd, tqM_tk, tqM_pl, tqM_vl, tqM_len, tqM_n, tqM_at_, tqM_token, tqM_place, tqM_value, tqM_fault, tqM_fat, TP_.w_by_, TP_.w_wd, TP_.w_tk, TP_.w_pl, TP_.w_vl, TP_.w_len, TP_.w_n, TP_.w_at_, TP_.w_token, TP_.w_place, TP_.w_value, TP_.w_fault, TP_.w_fat] at u_25); simp only [ebqa1, hs_57, hs_4, etqa0, hs_55, hs_10, esqx, hs_56, hs_11, hQ_24, u_25, h_26, (nle h_26), h_29, hx_33, f_34, (eq_true h_35), c_44, c_54, (eq_true h_58), hx_60, if_true, if_false, bqM_pnm, bqM_par, bqM_dnm, bqM_persons, bqM_dishes, bqM_law, bqM_dogs, TB_.w_pnm, TB_.w_par, TB_.w_dnm, TB_.w_persons, TB_.w_dishes, TB_.w_law, TB_.w_dogs, sqM_sl, sqM_so, SP_.w_sl, SP_.w_so, tqM_by_, tqM_wd, tqM_tk, tqM_pl, tqM_vl, tqM_len, tqM_n, tqM_at_, tqM_token, tqM_place, tqM_value, tqM_fault, tqM_fat, TP_.w_by_, TP_.w_wd, TP_.w_tk, TP_.w_pl, TP_.w_vl, TP_.w_len, TP_.w_n, TP_.w_at_, TP_.w_token, TP_.w_place, TP_.w_value, TP_.w_fault, TP_.w_fat]) (ms_1 hm_20 (ti_k tx_60 rc_1) (by decide))
            · skip
              have n_61 : ¬ x_48 = 0 := h_58
              have r_62 := ne_lo (lo := 1) n_61 rx_48 rc_0 rfl (by decide)
              refine g_aload_n C 0 dX7_readAll_47 rfl rfl ?_
              refine g_bipush C (v := 18) dX7_readAll_48 (by decide) ?_
              refine g_iconst C (v := 0) dX7_readAll_50 (by decide) ?_
              refine g_iconst C (v := 0) dX7_readAll_51 (by decide) ?_
              refine g_callVI C K (c_X7_addStep W9 hLx hkx 18 0 0 (rg_w rc_0 (by decide) (by decide)) hUI_49  (fun q => absurd q (by decide))) hLx hkx (by decide) rfl v_7_63 rfl ⟨rfl, rfl⟩ ⟨Nat.le_of_ble_eq_true rfl, Nat.le_of_ble_eq_true rfl⟩ (Nat.le_of_ble_eq_true rfl) ⟨Nat.le_of_ble_eq_true rfl, Nat.le_of_ble_eq_true rfl⟩ dX7_readAll_52 rfl (st := []) (fun x_63 I_64 J_65 h_66 => ?_)
              obtain ⟨hUI_64, hFI_64, hGJ_65, rx_63, fx_63⟩ := h_66
              have hF_67 := fq_tr hF_52 hFI_64 (by decide)
              have hG_68 := fq_tr hG_53 hGJ_65 (by decide)
              obtain ⟨s_70, hs_70⟩ : ∃ z, SPq I_64 J_65 x = z := ⟨_, rfl⟩
              have c_69 : fAddStep (s_56) = (x_63, s_70) := by have q := fx_63; simp only [esqx, hs_56, hs_70] at q; exact q.symm
              have hs_71 : TBq I_64 J_65 a1 b_1 b_2 b_3 = s_21 := (bq_fq wbqa1 hFI_64 hGJ_65 (by decide) (by decide)).trans hs_57
              have hs_72 : TPq I_64 J_65 a0 b_5 b_6 b_7 b_8 b_9 = s_55 := (tq_fq wtqa0 hFI_64 hGJ_65 (by decide) (by decide)).trans hs_55
              refine g_if_eq C (tgt := 62) dX7_readAll_55 (by decide) (fun h_73 => ?_) (fun h_73 => ?_)
              · skip
                have r_74 := (⟨(rx_63).1, (eq_rg (h_73) rc_0).2⟩ : Rg 0 0 x_63)
                refine g_iconst C (v := 0) dX7_readAll_62 (by decide) ?_
                refine g_istore C dX7_readAll_63 (by decide) (lo2 := [(4, .int 0), (0, .ref x), (1, .ref a0), (2, .ref a1), (3, .int a2), (5, .int v_18)]) rfl ?_
                obtain ⟨x_75, hx_75, rx_75, tx_75⟩ := ex_add (y := 1) 1 20 r_28 rc_1 (by decide) (by decide) (by decide) (by decide)
                refine g_iinc C dX7_readAll_65 (k := 5) (v := x_75) rfl hx_75 (by decide) (lo2 := [(5, .int x_75), (4, .int 0), (0, .ref x), (1, .ref a0), (2, .ref a1), (3, .int a2)]) rfl ?_
                refine g_goto C (tgt := 12) dX7_readAll_68 (by decide) ?_
                refine g_lo (is := [2, 3, 4, 5, 1, 0]) (lo2 := [(0, .ref x), (1, .ref a0), (2, .ref a1), (3, .int a2), (4, .int 0), (5, .int x_75)]) rfl ?_
                exact ih_12 I_64 J_65 hUI_64 hF_67 hG_68 0 (rg_w rc_0 (by decide) (by decide)) x_75 (rg_w rx_75 (by decide) (by decide)) (by (try simp only [h_26, (nle h_26), h_29, hx_33, f_34, (eq_true h_35), c_44, c_54, h_58, c_69, (eq_true h_73), hx_75, if_true, if_false, bqM_pnm, bqM_par, bqM_dnm, bqM_persons, bqM_dishes, bqM_law, bqM_dogs, TB_.w_pnm, TB_.w_par, TB_.w_dnm, TB_.w_persons, TB_.w_dishes, TB_.w_law, TB_.w_dogs, sqM_sl, sqM_so, SP_.w_sl, SP_.w_so, tqM_by_, tqM_wd, tqM_tk, tqM_pl, tqM_vl, tqM_len, tqM_n, tqM_at_, tqM_token, tqM_place, tqM_value, tqM_fault, tqM_fat, TP_.w_by_, TP_.w_wd, TP_.w_tk, TP_.w_pl, TP_.w_vl, TP_.w_len, TP_.w_n, TP_.w_at_, TP_.w_token, TP_.w_place, TP_.w_value, TP_.w_fault, TP_.w_fat] at hQ_24); (try simp only [h_26, (nle h_26), h_29, hx_33, f_34, (eq_true h_35), c_44, c_54, h_58, c_69, (eq_true h_73), hx_75, if_true, if_false, bqM_pnm, bqM_par, bqM_dnm, bqM_persons, bqM_dishes, bqM_law, bqM_dogs, TB_.w_pnm, TB_.w_par, TB_.w_dnm, TB_.w_persons, TB_.w_dishes, TB_.w_law, TB_.w_dogs, sqM_sl, sqM_so, SP_.w_sl, SP_.w_so, tqM_by_, tqM_wd, tqM_tk, tqM_pl, tqM_vl, tqM_len, tqM_n, tqM_at_, tqM_token, tqM_place, tqM_value, tqM_fault, tqM_fat, TP_.w_by_, TP_.w_wd, TP_.w_tk, TP_.w_pl, TP_.w_vl, TP_.w_len, TP_.w_n, TP_.w_at_, TP_.w_token, TP_.w_place, TP_.w_value, TP_.w_fault, TP_.w_fat] at u_25); simp only [ebqa1, hs_71, hs_4, etqa0, hs_72, hs_10, esqx, hs_70, hs_11, hQ_24, u_25, h_26, (nle h_26), h_29, hx_33, f_34, (eq_true h_35), c_44, c_54, h_58, c_69, (eq_true h_73), hx_75, if_true, if_false, bqM_pnm, bqM_par, bqM_dnm, bqM_persons, bqM_dishes, bqM_law, bqM_dogs, TB_.w_pnm, TB_.w_par, TB_.w_dnm, TB_.w_persons, TB_.w_dishes, TB_.w_law, TB_.w_dogs, sqM_sl, sqM_so, SP_.w_sl, SP_.w_so, tqM_by_, tqM_wd, tqM_tk, tqM_pl, tqM_vl, tqM_len, tqM_n, tqM_at_, tqM_token, tqM_place, tqM_value, tqM_fault, tqM_fat, TP_.w_by_, TP_.w_wd, TP_.w_tk, TP_.w_pl, TP_.w_vl, TP_.w_len, TP_.w_n, TP_.w_at_, TP_.w_token, TP_.w_place, TP_.w_value, TP_.w_fault, TP_.w_fat]) (ms_1 hm_20 (ti_k tx_75 rc_1) (by decide))
              · skip
                have n_76 : ¬ x_63 = 0 := h_73
                have r_77 := ne_lo (lo := 1) n_76 rx_63 rc_0 rfl (by decide)
                refine g_iconst C (v := 1) dX7_readAll_58 (by decide) ?_
                refine g_goto C (tgt := 63) dX7_readAll_59 (by decide) ?_
                refine g_istore C dX7_readAll_63 (by decide) (lo2 := [(4, .int 1), (0, .ref x), (1, .ref a0), (2, .ref a1), (3, .int a2), (5, .int v_18)]) rfl ?_
                obtain ⟨x_78, hx_78, rx_78, tx_78⟩ := ex_add (y := 1) 1 20 r_28 rc_1 (by decide) (by decide) (by decide) (by decide)
                refine g_iinc C dX7_readAll_65 (k := 5) (v := x_78) rfl hx_78 (by decide) (lo2 := [(5, .int x_78), (4, .int 1), (0, .ref x), (1, .ref a0), (2, .ref a1), (3, .int a2)]) rfl ?_
                refine g_goto C (tgt := 12) dX7_readAll_68 (by decide) ?_
                refine g_lo (is := [2, 3, 4, 5, 1, 0]) (lo2 := [(0, .ref x), (1, .ref a0), (2, .ref a1), (3, .int a2), (4, .int 1), (5, .int x_78)]) rfl ?_
                exact ih_12 I_64 J_65 hUI_64 hF_67 hG_68 1 (rg_w rc_1 (by decide) (by decide)) x_78 (rg_w rx_78 (by decide) (by decide)) (by (try simp only [h_26, (nle h_26), h_29, hx_33, f_34, (eq_true h_35), c_44, c_54, h_58, c_69, h_73, hx_78, if_true, if_false, bqM_pnm, bqM_par, bqM_dnm, bqM_persons, bqM_dishes, bqM_law, bqM_dogs, TB_.w_pnm, TB_.w_par, TB_.w_dnm, TB_.w_persons, TB_.w_dishes, TB_.w_law, TB_.w_dogs, sqM_sl, sqM_so, SP_.w_sl, SP_.w_so, tqM_by_, tqM_wd, tqM_tk, tqM_pl, tqM_vl, tqM_len, tqM_n, tqM_at_, tqM_token, tqM_place, tqM_value, tqM_fault, tqM_fat, TP_.w_by_, TP_.w_wd, TP_.w_tk, TP_.w_pl, TP_.w_vl, TP_.w_len, TP_.w_n, TP_.w_at_, TP_.w_token, TP_.w_place, TP_.w_value, TP_.w_fault, TP_.w_fat] at hQ_24); (try simp only [h_26, (nle h_26), h_29, hx_33, f_34, (eq_true h_35), c_44, c_54, h_58, c_69, h_73, hx_78, if_true, if_false, bqM_pnm, bqM_par, bqM_dnm, bqM_persons, bqM_dishes, bqM_law, bqM_dogs, TB_.w_pnm, TB_.w_par, TB_.w_dnm, TB_.w_persons, TB_.w_dishes, TB_.w_law, TB_.w_dogs, sqM_sl, sqM_so, SP_.w_sl, SP_.w_so, tqM_by_, tqM_wd, tqM_tk, tqM_pl, tqM_vl, tqM_len, tqM_n, tqM_at_, tqM_token, tqM_place, tqM_value, tqM_fault, tqM_fat, TP_.w_by_, TP_.w_wd, TP_.w_tk, TP_.w_pl, TP_.w_vl, TP_.w_len, TP_.w_n, TP_.w_at_, TP_.w_token, TP_.w_place, TP_.w_value, TP_.w_fault, TP_.w_fat] at u_25); simp only [ebqa1, hs_71, hs_4, etqa0, hs_72, hs_10, esqx, hs_70, hs_11, hQ_24, u_25, h_26, (nle h_26), h_29, hx_33, f_34, (eq_true h_35), c_44, c_54, h_58, c_69, h_73, hx_78, if_true, if_false, bqM_pnm, bqM_par, bqM_dnm, bqM_persons, bqM_dishes, bqM_law, bqM_dogs, TB_.w_pnm, TB_.w_par, TB_.w_dnm, TB_.w_persons, TB_.w_dishes, TB_.w_law, TB_.w_dogs, sqM_sl, sqM_so, SP_.w_sl, SP_.w_so, tqM_by_, tqM_wd, tqM_tk, tqM_pl, tqM_vl, tqM_len, tqM_n, tqM_at_, tqM_token, tqM_place, tqM_value, tqM_fault, tqM_fat, TP_.w_by_, TP_.w_wd, TP_.w_tk, TP_.w_pl, TP_.w_vl, TP_.w_len, TP_.w_n, TP_.w_at_, TP_.w_token, TP_.w_place, TP_.w_value, TP_.w_fault, TP_.w_fat]) (ms_1 hm_20 (ti_k tx_78 rc_1) (by decide))
  refine g_aload_n C 0 dX7_readAll_0 rfl rfl ?_
  refine g_aload_n C 1 dX7_readAll_1 rfl rfl ?_
  refine g_aload_n C 2 dX7_readAll_2 rfl rfl ?_
  refine g_iload_n C 3 dX7_readAll_3 rfl rfl ?_
  refine g_callVI C K (c_X7_readOne_6 W9 hLx hkx hLa0 hka0 hLa1 hka1 a2 (ra2) hU) hLx hkx (by decide) rfl v_7_67 rfl ⟨rfl, rfl⟩ ⟨Nat.le_of_ble_eq_true rfl, Nat.le_of_ble_eq_true rfl⟩ (Nat.le_of_ble_eq_true rfl) ⟨Nat.le_of_ble_eq_true rfl, Nat.le_of_ble_eq_true rfl⟩ dX7_readAll_4 rfl (st := []) (fun x_79 I_80 J_81 h_82 => ?_)
  obtain ⟨hUI_80, hFI_80, hGJ_81, rx_79, fx_79⟩ := h_82
  have hF_83 := fq_tr hF hFI_80 (by decide)
  have hG_84 := fq_tr hG hGJ_81 (by decide)
  obtain ⟨s_86, hs_86⟩ : ∃ z, TPq I_80 J_81 a0 b_5 b_6 b_7 b_8 b_9 = z := ⟨_, rfl⟩
  obtain ⟨s_87, hs_87⟩ : ∃ z, SPq I_80 J_81 x = z := ⟨_, rfl⟩
  have c_85 : fOne 3 (s_4) (s_10) (s_11) = (x_79, s_86, s_87) := by have q := fx_79; simp only [ebqa1, etqa0, esqx, hs_4, hs_10, hs_11, hs_86, hs_87] at q; exact q.symm
  have hs_88 : TBq I_80 J_81 a1 b_1 b_2 b_3 = s_4 := (bq_fq wbqa1 hFI_80 hGJ_81 (by decide) (by decide)).trans hs_4
  refine g_istore C dX7_readAll_7 (by decide) (lo2 := [(4, .int x_79), (0, .ref x), (1, .ref a0), (2, .ref a1), (3, .int a2)]) rfl ?_
  refine g_iconst C (v := 0) dX7_readAll_9 (by decide) ?_
  refine g_istore C dX7_readAll_10 (by decide) (lo2 := [(5, .int 0), (4, .int x_79), (0, .ref x), (1, .ref a0), (2, .ref a1), (3, .int a2)]) rfl ?_
  refine g_lo (is := [2, 3, 4, 5, 1, 0]) (lo2 := [(0, .ref x), (1, .ref a0), (2, .ref a1), (3, .int a2), (4, .int x_79), (5, .int 0)]) rfl ?_
  exact l_12 21 I_80 J_81 hUI_80 hF_83 hG_84 x_79 (rx_79) 0 (rg_w rc_0 (by decide) (by decide)) (by simp only [fAll, ebqa1, hs_88, hs_4, etqa0, hs_86, hs_10, esqx, hs_87, hs_11, c_85, if_true, if_false, bqM_pnm, bqM_par, bqM_dnm, bqM_persons, bqM_dishes, bqM_law, bqM_dogs, TB_.w_pnm, TB_.w_par, TB_.w_dnm, TB_.w_persons, TB_.w_dishes, TB_.w_law, TB_.w_dogs, sqM_sl, sqM_so, SP_.w_sl, SP_.w_so, tqM_by_, tqM_wd, tqM_tk, tqM_pl, tqM_vl, tqM_len, tqM_n, tqM_at_, tqM_token, tqM_place, tqM_value, tqM_fault, tqM_fat, TP_.w_by_, TP_.w_wd, TP_.w_tk, TP_.w_pl, TP_.w_vl, TP_.w_len, TP_.w_n, TP_.w_at_, TP_.w_token, TP_.w_place, TP_.w_value, TP_.w_fault, TP_.w_fat]) (ms_s (a := 0) (b := 20) (N := 21) (rg_w rc_0 (by decide) (by decide)) (by decide))
set_option maxRecDepth 100000 in
set_option maxHeartbeats 8000000 in
theorem c_X7_readCond_6 {l : Launch} {D : va_G} {cy : Nat → ClassId} {L : List Nat} {κ ln : Nat → Nat} {R : Nat → Nat → Option Nat} {I : Nat → Nat → Int32} {J : Nat → Nat → Int64} {ow : Nat → Nat × Nat} (W9 : ∀ a ∈ L, Shp L κ ln R ow a) {x : Nat} (hLx : x ∈ L) (hkx : κ x = 7) {a0 : Nat} (hLa0 : a0 ∈ L) (hka0 : κ a0 = 10) {a1 : Nat} (hLa1 : a1 ∈ L) (hka1 : κ a1 = 8) (a2 : Int32) (ra2 : Rg 6 6 a2) (hU : Iv L κ R ow I) : CtI l yX7_readCond cX7_readCond 6 (some .boolean) { frames := 12, cells := 0, slots := 0, locals := 292 } D cy L κ ln R I J [.ref x, .ref a0, .ref a1, .int a2] (fun r I2 J2 => Iv L κ R ow I2 ∧ Fq L κ ow [704, 705, 1007, 1008, 1009, 1011, 1012, 52000, 52100, 52200] I I2 ∧ Fq L κ ow [1010] J J2 ∧ Rg 0 1 r ∧ ((r, TPf R I2 J2 a0, SPf R I2 J2 x) = fCond 3 (TBf R I J a1) (TPf R I J a0) (SPf R I J x))) := by
  refine CtI.of (by decide +kernel) (Nat.le_of_ble_eq_true rfl) ?_
  intro p e s m below meth c B K
  have C := B.1
  have hF : Fq L κ ow [704, 705, 1007, 1008, 1009, 1011, 1012, 52000, 52100, 52200] I I := fq_rf
  have hG : Fq L κ ow [1010] J J := fq_rf
  obtain ⟨b_1, hb_1, hb_1L, hb_1k, hb_1n, hb_1o⟩ := shp_a (W9 a1 hLa1) hka1 0 15 7 rfl (by decide)
  obtain ⟨b_2, hb_2, hb_2L, hb_2k, hb_2n, hb_2o⟩ := shp_a (W9 a1 hLa1) hka1 2 14 7 rfl (by decide)
  obtain ⟨b_3, hb_3, hb_3L, hb_3k, hb_3n, hb_3o⟩ := shp_a (W9 a1 hLa1) hka1 3 15 6 rfl (by decide)
  have ebqa1 : ∀ I J, TBf R I J a1 = TBq I J a1 b_1 b_2 b_3 := fun I J => by simp only [TBf, rr_, Option.getD_some, hb_1, hb_2, hb_3]
  have wbqa1 : bqw_ L κ ow a1 b_1 b_2 b_3 := ⟨⟨hLa1, hb_1L, hb_2L, hb_3L⟩, ⟨(ro_o hka1 (by decide)), (ro_a hb_1k (by decide) hb_1o hka1 rfl), (ro_a hb_2k (by decide) hb_2o hka1 rfl), (ro_a hb_3k (by decide) hb_3o hka1 rfl)⟩⟩
  obtain ⟨s_4, hs_4⟩ : ∃ z, TBq I J a1 b_1 b_2 b_3 = z := ⟨_, rfl⟩
  obtain ⟨b_5, hb_5, hb_5L, hb_5k, hb_5n, hb_5o⟩ := shp_a (W9 a0 hLa0) hka0 0 13 940 rfl (by decide)
  obtain ⟨b_6, hb_6, hb_6L, hb_6k, hb_6n, hb_6o⟩ := shp_a (W9 a0 hLa0) hka0 1 15 28 rfl (by decide)
  obtain ⟨b_7, hb_7, hb_7L, hb_7k, hb_7n, hb_7o⟩ := shp_a (W9 a0 hLa0) hka0 2 14 901 rfl (by decide)
  obtain ⟨b_8, hb_8, hb_8L, hb_8k, hb_8n, hb_8o⟩ := shp_a (W9 a0 hLa0) hka0 3 14 901 rfl (by decide)
  obtain ⟨b_9, hb_9, hb_9L, hb_9k, hb_9n, hb_9o⟩ := shp_a (W9 a0 hLa0) hka0 4 15 901 rfl (by decide)
  have etqa0 : ∀ I J, TPf R I J a0 = TPq I J a0 b_5 b_6 b_7 b_8 b_9 := fun I J => by simp only [TPf, rr_, Option.getD_some, hb_5, hb_6, hb_7, hb_8, hb_9]
  have wtqa0 : tqw_ L κ ow a0 b_5 b_6 b_7 b_8 b_9 := ⟨⟨hLa0, hb_5L, hb_6L, hb_7L, hb_8L, hb_9L⟩, ⟨(ro_o hka0 (by decide)), (ro_a hb_5k (by decide) hb_5o hka0 rfl), (ro_a hb_6k (by decide) hb_6o hka0 rfl), (ro_a hb_7k (by decide) hb_7o hka0 rfl), (ro_a hb_8k (by decide) hb_8o hka0 rfl), (ro_a hb_9k (by decide) hb_9o hka0 rfl)⟩⟩
  obtain ⟨s_10, hs_10⟩ : ∃ z, TPq I J a0 b_5 b_6 b_7 b_8 b_9 = z := ⟨_, rfl⟩
  have esqx : ∀ I J, SPf R I J x = SPq I J x := fun I J => by simp only [SPf, rr_, Option.getD_some]
  have wsqx : sqw_ L κ ow x := ⟨hLx, (ro_o hkx (by decide))⟩
  obtain ⟨s_11, hs_11⟩ : ∃ z, SPq I J x = z := ⟨_, rfl⟩
  refine g_lo (is := [0, 1, 2, 3]) (lo2 := [(0, .ref x), (1, .ref a0), (2, .ref a1), (3, .int a2)]) rfl ?_
  have l_12 : ∀ (n_12 : Nat) (I_12 : Nat → Nat → Int32) (J_13 : Nat → Nat → Int64) (hU_14 : Iv L κ R ow I_12) (hF_15 : Fq L κ ow [704, 705, 1007, 1008, 1009, 1011, 1012, 52000, 52100, 52200] I I_12) (hG_16 : Fq L κ ow [1010] J J_13) (v_17 : Int32) (rv_17 : Rg 0 1 v_17) (v_18 : Int32) (rv_18 : Rg 0 20 v_18) (hq_19 : fLp (fAll 3 (TBq I_12 J_13 a1 b_1 b_2 b_3)) 17 v_18 v_17 (TPq I_12 J_13 a0 b_5 b_6 b_7 b_8 b_9) (SPq I_12 J_13 x) = fCond 3 s_4 s_10 s_11) (hm_20 : 20 < (v_18 : Int32).toInt + (n_12 : Int)), WG p l e { frames := 12, cells := 0, slots := 0, locals := 292 } s m ([.ref x, .ref a0, .ref a1, .int a2] : List Value).toArray below meth c 6 0 0 (MQ below (Qi_ D cy L κ ln R (fun r I2 J2 => Iv L κ R ow I2 ∧ Fq L κ ow [704, 705, 1007, 1008, 1009, 1011, 1012, 52000, 52100, 52200] I I2 ∧ Fq L κ ow [1010] J J2 ∧ Rg 0 1 r ∧ ((r, TPf R I2 J2 a0, SPf R I2 J2 x) = fCond 3 (TBf R I J a1) (TPf R I J a0) (SPf R I J x)))) ([.ref x, .ref a0, .ref a1, .int a2] : List Value).toArray s 0 0 (Al_ L)) D cy (Al_ L) s.heap L κ ln R I_12 J_13 12 [(0, .ref x), (1, .ref a0), (2, .ref a1), (3, .int a2), (4, .int v_17), (5, .int v_18)] [] := by
    intro n_12
    induction n_12 with
    | zero =>
      intro I_12 J_13 hU_14 hF_15 hG_16 v_17 rv_17 v_18 rv_18 hq_19 hm_20
      exact ms_0 rv_18 hm_20
    | succ n_12 ih_12 =>
      intro I_12 J_13 hU_14 hF_15 hG_16 v_17 rv_17 v_18 rv_18 hq_19 hm_20
      obtain ⟨s_21, hs_21⟩ : ∃ z, TBq I_12 J_13 a1 b_1 b_2 b_3 = z := ⟨_, rfl⟩
      obtain ⟨s_22, hs_22⟩ : ∃ z, TPq I_12 J_13 a0 b_5 b_6 b_7 b_8 b_9 = z := ⟨_, rfl⟩
      obtain ⟨s_23, hs_23⟩ : ∃ z, SPq I_12 J_13 x = z := ⟨_, rfl⟩
      simp only [hs_21, hs_22, hs_23] at hq_19
      have hQ_24 := hq_19.symm
      have u_25 := fLp_eq (rd := fAll 3 s_21) (k := 17) (i := v_18) (r := v_17) (t := s_22) (s := s_23) (rv_18)
      refine g_iload C 5 dX7_readCond_12 rfl ?_
      refine g_bipush C (v := 20) dX7_readCond_14 (by decide) ?_
      refine g_icmp_ge C (tgt := 71) dX7_readCond_16 (by decide) (fun h_26 => ?_) (fun h_26 => ?_)
      · skip
        have r_27 := le_r (h_26) rc_20 rv_18
        refine g_iload C 4 dX7_readCond_71 rfl ?_
        exact g_zret (ty := .boolean) (r := v_17) B K rfl (nar_z (rv_17)) ⟨hU_14, hF_15, hG_16, rv_17, (by (try simp only [h_26, if_true, if_false, bqM_pnm, bqM_par, bqM_dnm, bqM_persons, bqM_dishes, bqM_law, bqM_dogs, TB_.w_pnm, TB_.w_par, TB_.w_dnm, TB_.w_persons, TB_.w_dishes, TB_.w_law, TB_.w_dogs, sqM_sl, sqM_so, SP_.w_sl, SP_.w_so, tqM_by_, tqM_wd, tqM_tk, tqM_pl, tqM_vl, tqM_len, tqM_n, tqM_at_, tqM_token, tqM_place, tqM_value, tqM_fault, tqM_fat, TP_.w_by_, TP_.w_wd, TP_.w_tk, TP_.w_pl, TP_.w_vl, TP_.w_len, TP_.w_n, TP_.w_at_, TP_.w_token, TP_.w_place, TP_.w_value, TP_.w_fault, TP_.w_fat] at hQ_24); (try simp only [h_26, if_true, if_false, bqM_pnm, bqM_par, bqM_dnm, bqM_persons, bqM_dishes, bqM_law, bqM_dogs, TB_.w_pnm, TB_.w_par, TB_.w_dnm, TB_.w_persons, TB_.w_dishes, TB_.w_law, TB_.w_dogs, sqM_sl, sqM_so, SP_.w_sl, SP_.w_so, tqM_by_, tqM_wd, tqM_tk, tqM_pl, tqM_vl, tqM_len, tqM_n, tqM_at_, tqM_token, tqM_place, tqM_value, tqM_fault, tqM_fat, TP_.w_by_, TP_.w_wd, TP_.w_tk, TP_.w_pl, TP_.w_vl, TP_.w_len, TP_.w_n, TP_.w_at_, TP_.w_token, TP_.w_place, TP_.w_value, TP_.w_fault, TP_.w_fat] at u_25); simp only [ebqa1, hs_21, hs_4, etqa0, hs_22, hs_10, esqx, hs_23, hs_11, hQ_24, u_25, h_26, if_true, if_false, bqM_pnm, bqM_par, bqM_dnm, bqM_persons, bqM_dishes, bqM_law, bqM_dogs, TB_.w_pnm, TB_.w_par, TB_.w_dnm, TB_.w_persons, TB_.w_dishes, TB_.w_law, TB_.w_dogs, sqM_sl, sqM_so, SP_.w_sl, SP_.w_so, tqM_by_, tqM_wd, tqM_tk, tqM_pl, tqM_vl, tqM_len, tqM_n, tqM_at_, tqM_token, tqM_place, tqM_value, tqM_fault, tqM_fat, TP_.w_by_, TP_.w_wd, TP_.w_tk, TP_.w_pl, TP_.w_vl, TP_.w_len, TP_.w_n, TP_.w_at_, TP_.w_token, TP_.w_place, TP_.w_value, TP_.w_fault, TP_.w_fat])⟩ dX7_readCond_73
      · skip
        have r_28 := lt_l (hi := 19) (nle h_26) rv_18 rc_20 (by decide)
        refine g_iload C 4 dX7_readCond_19 rfl ?_
        refine g_if_eq C (tgt := 71) dX7_readCond_21 (by decide) (fun h_29 => ?_) (fun h_29 => ?_)
        · skip
          have r_30 := (⟨(rv_17).1, (eq_rg (h_29) rc_0).2⟩ : Rg 0 0 v_17)
          refine g_iload C 4 dX7_readCond_71 rfl ?_
          exact g_zret (ty := .boolean) (r := v_17) B K rfl (nar_z (rg_w r_30 (by decide) (by decide))) ⟨hU_14, hF_15, hG_16, rg_w r_30 (by decide) (by decide), (by (try simp only [h_26, (nle h_26), (eq_true h_29), if_true, if_false, bqM_pnm, bqM_par, bqM_dnm, bqM_persons, bqM_dishes, bqM_law, bqM_dogs, TB_.w_pnm, TB_.w_par, TB_.w_dnm, TB_.w_persons, TB_.w_dishes, TB_.w_law, TB_.w_dogs, sqM_sl, sqM_so, SP_.w_sl, SP_.w_so, tqM_by_, tqM_wd, tqM_tk, tqM_pl, tqM_vl, tqM_len, tqM_n, tqM_at_, tqM_token, tqM_place, tqM_value, tqM_fault, tqM_fat, TP_.w_by_, TP_.w_wd, TP_.w_tk, TP_.w_pl, TP_.w_vl, TP_.w_len, TP_.w_n, TP_.w_at_, TP_.w_token, TP_.w_place, TP_.w_value, TP_.w_fault, TP_.w_fat] at hQ_24); (try simp only [h_26, (nle h_26), (eq_true h_29), if_true, if_false, bqM_pnm, bqM_par, bqM_dnm, bqM_persons, bqM_dishes, bqM_law, bqM_dogs, TB_.w_pnm, TB_.w_par, TB_.w_dnm, TB_.w_persons, TB_.w_dishes, TB_.w_law, TB_.w_dogs, sqM_sl, sqM_so, SP_.w_sl, SP_.w_so, tqM_by_, tqM_wd, tqM_tk, tqM_pl, tqM_vl, tqM_len, tqM_n, tqM_at_, tqM_token, tqM_place, tqM_value, tqM_fault, tqM_fat, TP_.w_by_, TP_.w_wd, TP_.w_tk, TP_.w_pl, TP_.w_vl, TP_.w_len, TP_.w_n, TP_.w_at_, TP_.w_token, TP_.w_place, TP_.w_value, TP_.w_fault, TP_.w_fat] at u_25); simp only [ebqa1, hs_21, hs_4, etqa0, hs_22, hs_10, esqx, hs_23, hs_11, hQ_24, u_25, h_26, (nle h_26), (eq_true h_29), if_true, if_false, bqM_pnm, bqM_par, bqM_dnm, bqM_persons, bqM_dishes, bqM_law, bqM_dogs, TB_.w_pnm, TB_.w_par, TB_.w_dnm, TB_.w_persons, TB_.w_dishes, TB_.w_law, TB_.w_dogs, sqM_sl, sqM_so, SP_.w_sl, SP_.w_so, tqM_by_, tqM_wd, tqM_tk, tqM_pl, tqM_vl, tqM_len, tqM_n, tqM_at_, tqM_token, tqM_place, tqM_value, tqM_fault, tqM_fat, TP_.w_by_, TP_.w_wd, TP_.w_tk, TP_.w_pl, TP_.w_vl, TP_.w_len, TP_.w_n, TP_.w_at_, TP_.w_token, TP_.w_place, TP_.w_value, TP_.w_fault, TP_.w_fat])⟩ dX7_readCond_73
        · skip
          have n_31 : ¬ v_17 = 0 := h_29
          have r_32 := ne_lo (lo := 1) n_31 rv_17 rc_0 rfl (by decide)
          refine g_aload_n C 1 dX7_readCond_24 rfl rfl ?_
          obtain ⟨x_33, hx_33, rx_33⟩ := ex_get (I := I_12) (a := a0) (j := 8) (lo := (-2147483648)) (hi := 2147483647) hU_14.1 hLa0 (ro_o hka0 (by decide)) rfl
          have f_34 : s_22.token = x_33 := (congrArg TP_.token hs_22).symm.trans hx_33
          refine g_getI C K hLa0 hka0 f_7_57 (v := x_33) hx_33 dX7_readCond_25 ?_
          refine g_bipush C (v := 17) dX7_readCond_28 (by decide) ?_
          refine g_icmp_ne C (tgt := 71) dX7_readCond_30 (by decide) (fun h_35 => ?_) (fun h_35 => ?_)
          · skip
            have n_36 : ¬ x_33 = 17 := h_35
            refine g_iload C 4 dX7_readCond_71 rfl ?_
            exact g_zret (ty := .boolean) (r := v_17) B K rfl (nar_z (rg_w r_32 (by decide) (by decide))) ⟨hU_14, hF_15, hG_16, rg_w r_32 (by decide) (by decide), (by (try simp only [h_26, (nle h_26), h_29, hx_33, f_34, h_35, if_true, if_false, bqM_pnm, bqM_par, bqM_dnm, bqM_persons, bqM_dishes, bqM_law, bqM_dogs, TB_.w_pnm, TB_.w_par, TB_.w_dnm, TB_.w_persons, TB_.w_dishes, TB_.w_law, TB_.w_dogs, sqM_sl, sqM_so, SP_.w_sl, SP_.w_so, tqM_by_, tqM_wd, tqM_tk, tqM_pl, tqM_vl, tqM_len, tqM_n, tqM_at_, tqM_token, tqM_place, tqM_value, tqM_fault, tqM_fat, TP_.w_by_, TP_.w_wd, TP_.w_tk, TP_.w_pl, TP_.w_vl, TP_.w_len, TP_.w_n, TP_.w_at_, TP_.w_token, TP_.w_place, TP_.w_value, TP_.w_fault, TP_.w_fat] at hQ_24); (try simp only [h_26, (nle h_26), h_29, hx_33, f_34, h_35, if_true, if_false, bqM_pnm, bqM_par, bqM_dnm, bqM_persons, bqM_dishes, bqM_law, bqM_dogs, TB_.w_pnm, TB_.w_par, TB_.w_dnm, TB_.w_persons, TB_.w_dishes, TB_.w_law, TB_.w_dogs, sqM_sl, sqM_so, SP_.w_sl, SP_.w_so, tqM_by_, tqM_wd, tqM_tk, tqM_pl, tqM_vl, tqM_len, tqM_n, tqM_at_, tqM_token, tqM_place, tqM_value, tqM_fault, tqM_fat, TP_.w_by_, TP_.w_wd, TP_.w_tk, TP_.w_pl, TP_.w_vl, TP_.w_len, TP_.w_n, TP_.w_at_, TP_.w_token, TP_.w_place, TP_.w_value, TP_.w_fault, TP_.w_fat] at u_25); simp only [ebqa1, hs_21, hs_4, etqa0, hs_22, hs_10, esqx, hs_23, hs_11, hQ_24, u_25, h_26, (nle h_26), h_29, hx_33, f_34, h_35, if_true, if_false, bqM_pnm, bqM_par, bqM_dnm, bqM_persons, bqM_dishes, bqM_law, bqM_dogs, TB_.w_pnm, TB_.w_par, TB_.w_dnm, TB_.w_persons, TB_.w_dishes, TB_.w_law, TB_.w_dogs, sqM_sl, sqM_so, SP_.w_sl, SP_.w_so, tqM_by_, tqM_wd, tqM_tk, tqM_pl, tqM_vl, tqM_len, tqM_n, tqM_at_, tqM_token, tqM_place, tqM_value, tqM_fault, tqM_fat, TP_.w_by_, TP_.w_wd, TP_.w_tk, TP_.w_pl, TP_.w_vl, TP_.w_len, TP_.w_n, TP_.w_at_, TP_.w_token, TP_.w_place, TP_.w_value, TP_.w_fault, TP_.w_fat])⟩ dX7_readCond_73
          · skip
            have r_37 := (⟨(eq_rg (h_35) rc_17).1, (eq_rg (h_35) rc_17).2⟩ : Rg 17 17 x_33)
            refine g_aload_n C 1 dX7_readCond_33 rfl rfl ?_
            refine g_callVV C K (c_X10_advance W9 hLa0 hka0   hU_14) hLa0 hka0 (by decide) rfl v_7_60 rfl ⟨rfl, rfl⟩ ⟨Nat.le_of_ble_eq_true rfl, Nat.le_of_ble_eq_true rfl⟩ (Nat.le_of_ble_eq_true rfl) ⟨Nat.le_of_ble_eq_true rfl, Nat.le_of_ble_eq_true rfl⟩ dX7_readCond_34 rfl (st := []) (fun I_39 J_40 h_41 => ?_)
            obtain ⟨hUI_39, hFI_39, hGJ_40, fx_38⟩ := h_41
            have hF_42 := fq_tr hF_15 hFI_39 (by decide)
            have hG_43 := fq_tr hG_16 hGJ_40 (by decide)
            obtain ⟨s_45, hs_45⟩ : ∃ z, TPq I_39 J_40 a0 b_5 b_6 b_7 b_8 b_9 = z := ⟨_, rfl⟩
            have c_44 : fAdvance (s_22) = s_45 := by have q := fx_38; simp only [etqa0, hs_22, hs_45] at q; exact q.symm
            have hs_46 : TBq I_39 J_40 a1 b_1 b_2 b_3 = s_21 := (bq_fq wbqa1 hFI_39 hGJ_40 (by decide) (by decide)).trans hs_21
            have hs_47 : SPq I_39 J_40 x = s_23 := (sq_fq wsqx hFI_39 hGJ_40 (by decide) (by decide)).trans hs_23
            refine g_aload_n C 0 dX7_readCond_37 rfl rfl ?_
            refine g_aload_n C 1 dX7_readCond_38 rfl rfl ?_
            refine g_aload_n C 2 dX7_readCond_39 rfl rfl ?_
            refine g_iload_n C 3 dX7_readCond_40 rfl rfl ?_
            refine g_callVI C K (c_X7_readAll_6 W9 hLx hkx hLa0 hka0 hLa1 hka1 a2 (ra2) hUI_39) hLx hkx (by decide) rfl v_7_54 rfl ⟨rfl, rfl⟩ ⟨Nat.le_of_ble_eq_true rfl, Nat.le_of_ble_eq_true rfl⟩ (Nat.le_of_ble_eq_true rfl) ⟨Nat.le_of_ble_eq_true rfl, Nat.le_of_ble_eq_true rfl⟩ dX7_readCond_41 rfl (st := []) (fun x_48 I_49 J_50 h_51 => ?_)
            obtain ⟨hUI_49, hFI_49, hGJ_50, rx_48, fx_48⟩ := h_51
            have hF_52 := fq_tr hF_42 hFI_49 (by decide)
            have hG_53 := fq_tr hG_43 hGJ_50 (by decide)
            obtain ⟨s_55, hs_55⟩ : ∃ z, TPq I_49 J_50 a0 b_5 b_6 b_7 b_8 b_9 = z := ⟨_, rfl⟩
            obtain ⟨s_56, hs_56⟩ : ∃ z, SPq I_49 J_50 x = z := ⟨_, rfl⟩
            have c_54 : fAll 3 (s_21) (s_45) (s_23) = (x_48, s_55, s_56) := by have q := fx_48; simp only [ebqa1, etqa0, esqx, hs_46, hs_45, hs_47, hs_55, hs_56] at q; exact q.symm
            have hs_57 : TBq I_49 J_50 a1 b_1 b_2 b_3 = s_21 := (bq_fq wbqa1 hFI_49 hGJ_50 (by decide) (by decide)).trans hs_46
            refine g_if_eq C (tgt := 62) dX7_readCond_44 (by decide) (fun h_58 => ?_) (fun h_58 => ?_)
            · skip
              have r_59 := (⟨(rx_48).1, (eq_rg (h_58) rc_0).2⟩ : Rg 0 0 x_48)
              refine g_iconst C (v := 0) dX7_readCond_62 (by decide) ?_
              refine g_istore C dX7_readCond_63 (by decide) (lo2 := [(4, .int 0), (0, .ref x), (1, .ref a0), (2, .ref a1), (3, .int a2), (5, .int v_18)]) rfl ?_
              obtain ⟨x_60, hx_60, rx_60, tx_60⟩ := ex_add (y := 1) 1 20 r_28 rc_1 (by decide) (by decide) (by decide) (by decide)
              refine g_iinc C dX7_readCond_65 (k := 5) (v := x_60) rfl hx_60 (by decide) (lo2 := [(5, .int x_60), (4, .int 0), (0, .ref x), (1, .ref a0), (2, .ref a1), (3, .int a2)]) rfl ?_
              refine g_goto C (tgt := 12) dX7_readCond_68 (by decide) ?_
              refine g_lo (is := [2, 3, 4, 5, 1, 0]) (lo2 := [(0, .ref x), (1, .ref a0), (2, .ref a1), (3, .int a2), (4, .int 0), (5, .int x_60)]) rfl ?_
              exact ih_12 I_49 J_50 hUI_49 hF_52 hG_53 0 (rg_w rc_0 (by decide) (by decide)) x_60 (rg_w rx_60 (by decide) (by decide)) (by (try simp only [h_26, (nle h_26), h_29, hx_33, f_34, (eq_true h_35), c_44, c_54, (eq_true h_58), hx_60, if_true, if_false, bqM_pnm, bqM_par, bqM_dnm, bqM_persons, bqM_dishes, bqM_law, bqM_dogs, TB_.w_pnm, TB_.w_par, TB_.w_dnm, TB_.w_persons, TB_.w_dishes, TB_.w_law, TB_.w_dogs, sqM_sl, sqM_so, SP_.w_sl, SP_.w_so, tqM_by_, tqM_wd, tqM_tk, tqM_pl, tqM_vl, tqM_len, tqM_n, tqM_at_, tqM_token, tqM_place, tqM_value, tqM_fault, tqM_fat, TP_.w_by_, TP_.w_wd, TP_.w_tk, TP_.w_pl, TP_.w_vl, TP_.w_len, TP_.w_n, TP_.w_at_, TP_.w_token, TP_.w_place, TP_.w_value, TP_.w_fault, TP_.w_fat] at hQ_24); (try simp only [h_26, (nle h_26), h_29, hx_33, f_34, (eq_true h_35), c_44, c_54, (eq_true h_58), hx_60, if_true, if_false, bqM_pnm, bqM_par, bqM_dnm, bqM_persons, bqM_dishes, bqM_law, bqM_dogs, TB_.w_pnm, TB_.w_par, TB_.w_dnm, TB_.w_persons, TB_.w_dishes, TB_.w_law, TB_.w_dogs, sqM_sl, sqM_so, SP_.w_sl, SP_.w_so, tqM_by_, tqM_wd, tqM_tk, tqM_pl, tqM_vl, tqM_len, tqM_n, tqM_at_, tqM_token, tqM_place, tqM_value, tqM_fault, tqM_fat, TP_.w_by_, TP_.w_wd, TP_.w_tk, TP_.w_pl, TP_.w_vl, TP_.w_len, TP_.w_n, TP_.w_at_, TP_.w_token, TP_.w_place, TP_.w_value, TP_.w_fault, TP_.w_fat] at u_25); simp only [ebqa1, hs_57, hs_4, etqa0, hs_55, hs_10, esqx, hs_56, hs_11, hQ_24, u_25, h_26, (nle h_26), h_29, hx_33, f_34, (eq_true h_35), c_44, c_54, (eq_true h_58), hx_60, if_true, if_false, bqM_pnm, bqM_par, bqM_dnm, bqM_persons, bqM_dishes, bqM_law, bqM_dogs, TB_.w_pnm, TB_.w_par, TB_.w_dnm, TB_.w_persons, TB_.w_dishes, TB_.w_law, TB_.w_dogs, sqM_sl, sqM_so, SP_.w_sl, SP_.w_so, tqM_by_, tqM_wd, tqM_tk, tqM_pl, tqM_vl, tqM_len, tqM_n, tqM_at_, tqM_token, tqM_place, tqM_value, tqM_fault, tqM_fat, TP_.w_by_, TP_.w_wd, TP_.w_tk, TP_.w_pl, TP_.w_vl, TP_.w_len, TP_.w_n, TP_.w_at_, TP_.w_token, TP_.w_place, TP_.w_value, TP_.w_fault, TP_.w_fat]) (ms_1 hm_20 (ti_k tx_60 rc_1) (by decide))
            · skip
              have n_61 : ¬ x_48 = 0 := h_58
              have r_62 := ne_lo (lo := 1) n_61 rx_48 rc_0 rfl (by decide)
              refine g_aload_n C 0 dX7_readCond_47 rfl rfl ?_
              refine g_bipush C (v := 17) dX7_readCond_48 (by decide) ?_
              refine g_iconst C (v := 0) dX7_readCond_50 (by decide) ?_
              refine g_iconst C (v := 0) dX7_readCond_51 (by decide) ?_
              refine g_callVI C K (c_X7_addStep W9 hLx hkx 17 0 0 (rg_w rc_0 (by decide) (by decide)) hUI_49  (fun q => absurd q (by decide))) hLx hkx (by decide) rfl v_7_63 rfl ⟨rfl, rfl⟩ ⟨Nat.le_of_ble_eq_true rfl, Nat.le_of_ble_eq_true rfl⟩ (Nat.le_of_ble_eq_true rfl) ⟨Nat.le_of_ble_eq_true rfl, Nat.le_of_ble_eq_true rfl⟩ dX7_readCond_52 rfl (st := []) (fun x_63 I_64 J_65 h_66 => ?_)
              obtain ⟨hUI_64, hFI_64, hGJ_65, rx_63, fx_63⟩ := h_66
              have hF_67 := fq_tr hF_52 hFI_64 (by decide)
              have hG_68 := fq_tr hG_53 hGJ_65 (by decide)
              obtain ⟨s_70, hs_70⟩ : ∃ z, SPq I_64 J_65 x = z := ⟨_, rfl⟩
              have c_69 : fAddStep (s_56) = (x_63, s_70) := by have q := fx_63; simp only [esqx, hs_56, hs_70] at q; exact q.symm
              have hs_71 : TBq I_64 J_65 a1 b_1 b_2 b_3 = s_21 := (bq_fq wbqa1 hFI_64 hGJ_65 (by decide) (by decide)).trans hs_57
              have hs_72 : TPq I_64 J_65 a0 b_5 b_6 b_7 b_8 b_9 = s_55 := (tq_fq wtqa0 hFI_64 hGJ_65 (by decide) (by decide)).trans hs_55
              refine g_if_eq C (tgt := 62) dX7_readCond_55 (by decide) (fun h_73 => ?_) (fun h_73 => ?_)
              · skip
                have r_74 := (⟨(rx_63).1, (eq_rg (h_73) rc_0).2⟩ : Rg 0 0 x_63)
                refine g_iconst C (v := 0) dX7_readCond_62 (by decide) ?_
                refine g_istore C dX7_readCond_63 (by decide) (lo2 := [(4, .int 0), (0, .ref x), (1, .ref a0), (2, .ref a1), (3, .int a2), (5, .int v_18)]) rfl ?_
                obtain ⟨x_75, hx_75, rx_75, tx_75⟩ := ex_add (y := 1) 1 20 r_28 rc_1 (by decide) (by decide) (by decide) (by decide)
                refine g_iinc C dX7_readCond_65 (k := 5) (v := x_75) rfl hx_75 (by decide) (lo2 := [(5, .int x_75), (4, .int 0), (0, .ref x), (1, .ref a0), (2, .ref a1), (3, .int a2)]) rfl ?_
                refine g_goto C (tgt := 12) dX7_readCond_68 (by decide) ?_
                refine g_lo (is := [2, 3, 4, 5, 1, 0]) (lo2 := [(0, .ref x), (1, .ref a0), (2, .ref a1), (3, .int a2), (4, .int 0), (5, .int x_75)]) rfl ?_
                exact ih_12 I_64 J_65 hUI_64 hF_67 hG_68 0 (rg_w rc_0 (by decide) (by decide)) x_75 (rg_w rx_75 (by decide) (by decide)) (by (try simp only [h_26, (nle h_26), h_29, hx_33, f_34, (eq_true h_35), c_44, c_54, h_58, c_69, (eq_true h_73), hx_75, if_true, if_false, bqM_pnm, bqM_par, bqM_dnm, bqM_persons, bqM_dishes, bqM_law, bqM_dogs, TB_.w_pnm, TB_.w_par, TB_.w_dnm, TB_.w_persons, TB_.w_dishes, TB_.w_law, TB_.w_dogs, sqM_sl, sqM_so, SP_.w_sl, SP_.w_so, tqM_by_, tqM_wd, tqM_tk, tqM_pl, tqM_vl, tqM_len, tqM_n, tqM_at_, tqM_token, tqM_place, tqM_value, tqM_fault, tqM_fat, TP_.w_by_, TP_.w_wd, TP_.w_tk, TP_.w_pl, TP_.w_vl, TP_.w_len, TP_.w_n, TP_.w_at_, TP_.w_token, TP_.w_place, TP_.w_value, TP_.w_fault, TP_.w_fat] at hQ_24); (try simp only [h_26, (nle h_26), h_29, hx_33, f_34, (eq_true h_35), c_44, c_54, h_58, c_69, (eq_true h_73), hx_75, if_true, if_false, bqM_pnm, bqM_par, bqM_dnm, bqM_persons, bqM_dishes, bqM_law, bqM_dogs, TB_.w_pnm, TB_.w_par, TB_.w_dnm, TB_.w_persons, TB_.w_dishes, TB_.w_law, TB_.w_dogs, sqM_sl, sqM_so, SP_.w_sl, SP_.w_so, tqM_by_, tqM_wd, tqM_tk, tqM_pl, tqM_vl, tqM_len, tqM_n, tqM_at_, tqM_token, tqM_place, tqM_value, tqM_fault, tqM_fat, TP_.w_by_, TP_.w_wd, TP_.w_tk, TP_.w_pl, TP_.w_vl, TP_.w_len, TP_.w_n, TP_.w_at_, TP_.w_token, TP_.w_place, TP_.w_value, TP_.w_fault, TP_.w_fat] at u_25); simp only [ebqa1, hs_71, hs_4, etqa0, hs_72, hs_10, esqx, hs_70, hs_11, hQ_24, u_25, h_26, (nle h_26), h_29, hx_33, f_34, (eq_true h_35), c_44, c_54, h_58, c_69, (eq_true h_73), hx_75, if_true, if_false, bqM_pnm, bqM_par, bqM_dnm, bqM_persons, bqM_dishes, bqM_law, bqM_dogs, TB_.w_pnm, TB_.w_par, TB_.w_dnm, TB_.w_persons, TB_.w_dishes, TB_.w_law, TB_.w_dogs, sqM_sl, sqM_so, SP_.w_sl, SP_.w_so, tqM_by_, tqM_wd, tqM_tk, tqM_pl, tqM_vl, tqM_len, tqM_n, tqM_at_, tqM_token, tqM_place, tqM_value, tqM_fault, tqM_fat, TP_.w_by_, TP_.w_wd, TP_.w_tk, TP_.w_pl, TP_.w_vl, TP_.w_len, TP_.w_n, TP_.w_at_, TP_.w_token, TP_.w_place, TP_.w_value, TP_.w_fault, TP_.w_fat]) (ms_1 hm_20 (ti_k tx_75 rc_1) (by decide))
              · skip
                have n_76 : ¬ x_63 = 0 := h_73
                have r_77 := ne_lo (lo := 1) n_76 rx_63 rc_0 rfl (by decide)
                refine g_iconst C (v := 1) dX7_readCond_58 (by decide) ?_
                refine g_goto C (tgt := 63) dX7_readCond_59 (by decide) ?_
                refine g_istore C dX7_readCond_63 (by decide) (lo2 := [(4, .int 1), (0, .ref x), (1, .ref a0), (2, .ref a1), (3, .int a2), (5, .int v_18)]) rfl ?_
                obtain ⟨x_78, hx_78, rx_78, tx_78⟩ := ex_add (y := 1) 1 20 r_28 rc_1 (by decide) (by decide) (by decide) (by decide)
                refine g_iinc C dX7_readCond_65 (k := 5) (v := x_78) rfl hx_78 (by decide) (lo2 := [(5, .int x_78), (4, .int 1), (0, .ref x), (1, .ref a0), (2, .ref a1), (3, .int a2)]) rfl ?_
                refine g_goto C (tgt := 12) dX7_readCond_68 (by decide) ?_
                refine g_lo (is := [2, 3, 4, 5, 1, 0]) (lo2 := [(0, .ref x), (1, .ref a0), (2, .ref a1), (3, .int a2), (4, .int 1), (5, .int x_78)]) rfl ?_
                exact ih_12 I_64 J_65 hUI_64 hF_67 hG_68 1 (rg_w rc_1 (by decide) (by decide)) x_78 (rg_w rx_78 (by decide) (by decide)) (by (try simp only [h_26, (nle h_26), h_29, hx_33, f_34, (eq_true h_35), c_44, c_54, h_58, c_69, h_73, hx_78, if_true, if_false, bqM_pnm, bqM_par, bqM_dnm, bqM_persons, bqM_dishes, bqM_law, bqM_dogs, TB_.w_pnm, TB_.w_par, TB_.w_dnm, TB_.w_persons, TB_.w_dishes, TB_.w_law, TB_.w_dogs, sqM_sl, sqM_so, SP_.w_sl, SP_.w_so, tqM_by_, tqM_wd, tqM_tk, tqM_pl, tqM_vl, tqM_len, tqM_n, tqM_at_, tqM_token, tqM_place, tqM_value, tqM_fault, tqM_fat, TP_.w_by_, TP_.w_wd, TP_.w_tk, TP_.w_pl, TP_.w_vl, TP_.w_len, TP_.w_n, TP_.w_at_, TP_.w_token, TP_.w_place, TP_.w_value, TP_.w_fault, TP_.w_fat] at hQ_24); (try simp only [h_26, (nle h_26), h_29, hx_33, f_34, (eq_true h_35), c_44, c_54, h_58, c_69, h_73, hx_78, if_true, if_false, bqM_pnm, bqM_par, bqM_dnm, bqM_persons, bqM_dishes, bqM_law, bqM_dogs, TB_.w_pnm, TB_.w_par, TB_.w_dnm, TB_.w_persons, TB_.w_dishes, TB_.w_law, TB_.w_dogs, sqM_sl, sqM_so, SP_.w_sl, SP_.w_so, tqM_by_, tqM_wd, tqM_tk, tqM_pl, tqM_vl, tqM_len, tqM_n, tqM_at_, tqM_token, tqM_place, tqM_value, tqM_fault, tqM_fat, TP_.w_by_, TP_.w_wd, TP_.w_tk, TP_.w_pl, TP_.w_vl, TP_.w_len, TP_.w_n, TP_.w_at_, TP_.w_token, TP_.w_place, TP_.w_value, TP_.w_fault, TP_.w_fat] at u_25); simp only [ebqa1, hs_71, hs_4, etqa0, hs_72, hs_10, esqx, hs_70, hs_11, hQ_24, u_25, h_26, (nle h_26), h_29, hx_33, f_34, (eq_true h_35), c_44, c_54, h_58, c_69, h_73, hx_78, if_true, if_false, bqM_pnm, bqM_par, bqM_dnm, bqM_persons, bqM_dishes, bqM_law, bqM_dogs, TB_.w_pnm, TB_.w_par, TB_.w_dnm, TB_.w_persons, TB_.w_dishes, TB_.w_law, TB_.w_dogs, sqM_sl, sqM_so, SP_.w_sl, SP_.w_so, tqM_by_, tqM_wd, tqM_tk, tqM_pl, tqM_vl, tqM_len, tqM_n, tqM_at_, tqM_token, tqM_place, tqM_value, tqM_fault, tqM_fat, TP_.w_by_, TP_.w_wd, TP_.w_tk, TP_.w_pl, TP_.w_vl, TP_.w_len, TP_.w_n, TP_.w_at_, TP_.w_token, TP_.w_place, TP_.w_value, TP_.w_fault, TP_.w_fat]) (ms_1 hm_20 (ti_k tx_78 rc_1) (by decide))
  refine g_aload_n C 0 dX7_readCond_0 rfl rfl ?_
  refine g_aload_n C 1 dX7_readCond_1 rfl rfl ?_
  refine g_aload_n C 2 dX7_readCond_2 rfl rfl ?_
  refine g_iload_n C 3 dX7_readCond_3 rfl rfl ?_
  refine g_callVI C K (c_X7_readAll_6 W9 hLx hkx hLa0 hka0 hLa1 hka1 a2 (ra2) hU) hLx hkx (by decide) rfl v_7_54 rfl ⟨rfl, rfl⟩ ⟨Nat.le_of_ble_eq_true rfl, Nat.le_of_ble_eq_true rfl⟩ (Nat.le_of_ble_eq_true rfl) ⟨Nat.le_of_ble_eq_true rfl, Nat.le_of_ble_eq_true rfl⟩ dX7_readCond_4 rfl (st := []) (fun x_79 I_80 J_81 h_82 => ?_)
  obtain ⟨hUI_80, hFI_80, hGJ_81, rx_79, fx_79⟩ := h_82
  have hF_83 := fq_tr hF hFI_80 (by decide)
  have hG_84 := fq_tr hG hGJ_81 (by decide)
  obtain ⟨s_86, hs_86⟩ : ∃ z, TPq I_80 J_81 a0 b_5 b_6 b_7 b_8 b_9 = z := ⟨_, rfl⟩
  obtain ⟨s_87, hs_87⟩ : ∃ z, SPq I_80 J_81 x = z := ⟨_, rfl⟩
  have c_85 : fAll 3 (s_4) (s_10) (s_11) = (x_79, s_86, s_87) := by have q := fx_79; simp only [ebqa1, etqa0, esqx, hs_4, hs_10, hs_11, hs_86, hs_87] at q; exact q.symm
  have hs_88 : TBq I_80 J_81 a1 b_1 b_2 b_3 = s_4 := (bq_fq wbqa1 hFI_80 hGJ_81 (by decide) (by decide)).trans hs_4
  refine g_istore C dX7_readCond_7 (by decide) (lo2 := [(4, .int x_79), (0, .ref x), (1, .ref a0), (2, .ref a1), (3, .int a2)]) rfl ?_
  refine g_iconst C (v := 0) dX7_readCond_9 (by decide) ?_
  refine g_istore C dX7_readCond_10 (by decide) (lo2 := [(5, .int 0), (4, .int x_79), (0, .ref x), (1, .ref a0), (2, .ref a1), (3, .int a2)]) rfl ?_
  refine g_lo (is := [2, 3, 4, 5, 1, 0]) (lo2 := [(0, .ref x), (1, .ref a0), (2, .ref a1), (3, .int a2), (4, .int x_79), (5, .int 0)]) rfl ?_
  exact l_12 21 I_80 J_81 hUI_80 hF_83 hG_84 x_79 (rx_79) 0 (rg_w rc_0 (by decide) (by decide)) (by simp only [fCond, ebqa1, hs_88, hs_4, etqa0, hs_86, hs_10, esqx, hs_87, hs_11, c_85, if_true, if_false, bqM_pnm, bqM_par, bqM_dnm, bqM_persons, bqM_dishes, bqM_law, bqM_dogs, TB_.w_pnm, TB_.w_par, TB_.w_dnm, TB_.w_persons, TB_.w_dishes, TB_.w_law, TB_.w_dogs, sqM_sl, sqM_so, SP_.w_sl, SP_.w_so, tqM_by_, tqM_wd, tqM_tk, tqM_pl, tqM_vl, tqM_len, tqM_n, tqM_at_, tqM_token, tqM_place, tqM_value, tqM_fault, tqM_fat, TP_.w_by_, TP_.w_wd, TP_.w_tk, TP_.w_pl, TP_.w_vl, TP_.w_len, TP_.w_n, TP_.w_at_, TP_.w_token, TP_.w_place, TP_.w_value, TP_.w_fault, TP_.w_fat]) (ms_s (a := 0) (b := 20) (N := 21) (rg_w rc_0 (by decide) (by decide)) (by decide))
set_option maxRecDepth 100000 in
set_option maxHeartbeats 8000000 in
theorem c_X7_readOne_5 {l : Launch} {D : va_G} {cy : Nat → ClassId} {L : List Nat} {κ ln : Nat → Nat} {R : Nat → Nat → Option Nat} {I : Nat → Nat → Int32} {J : Nat → Nat → Int64} {ow : Nat → Nat × Nat} (W9 : ∀ a ∈ L, Shp L κ ln R ow a) {x : Nat} (hLx : x ∈ L) (hkx : κ x = 7) {a0 : Nat} (hLa0 : a0 ∈ L) (hka0 : κ a0 = 10) {a1 : Nat} (hLa1 : a1 ∈ L) (hka1 : κ a1 = 8) (a2 : Int32) (ra2 : Rg 5 5 a2) (hU : Iv L κ R ow I) : CtI l yX7_readOne cX7_readOne 5 (some .boolean) { frames := 13, cells := 0, slots := 0, locals := 317 } D cy L κ ln R I J [.ref x, .ref a0, .ref a1, .int a2] (fun r I2 J2 => Iv L κ R ow I2 ∧ Fq L κ ow [704, 705, 1007, 1008, 1009, 1011, 1012, 52000, 52100, 52200] I I2 ∧ Fq L κ ow [1010] J J2 ∧ Rg 0 1 r ∧ ((r, TPf R I2 J2 a0, SPf R I2 J2 x) = fOne 4 (TBf R I J a1) (TPf R I J a0) (SPf R I J x))) := by
  refine CtI.of (by decide +kernel) (Nat.le_of_ble_eq_true rfl) ?_
  intro p e s m below meth c B K
  have C := B.1
  have hF : Fq L κ ow [704, 705, 1007, 1008, 1009, 1011, 1012, 52000, 52100, 52200] I I := fq_rf
  have hG : Fq L κ ow [1010] J J := fq_rf
  obtain ⟨b_1, hb_1, hb_1L, hb_1k, hb_1n, hb_1o⟩ := shp_a (W9 a1 hLa1) hka1 0 15 7 rfl (by decide)
  obtain ⟨b_2, hb_2, hb_2L, hb_2k, hb_2n, hb_2o⟩ := shp_a (W9 a1 hLa1) hka1 2 14 7 rfl (by decide)
  obtain ⟨b_3, hb_3, hb_3L, hb_3k, hb_3n, hb_3o⟩ := shp_a (W9 a1 hLa1) hka1 3 15 6 rfl (by decide)
  have ebqa1 : ∀ I J, TBf R I J a1 = TBq I J a1 b_1 b_2 b_3 := fun I J => by simp only [TBf, rr_, Option.getD_some, hb_1, hb_2, hb_3]
  have wbqa1 : bqw_ L κ ow a1 b_1 b_2 b_3 := ⟨⟨hLa1, hb_1L, hb_2L, hb_3L⟩, ⟨(ro_o hka1 (by decide)), (ro_a hb_1k (by decide) hb_1o hka1 rfl), (ro_a hb_2k (by decide) hb_2o hka1 rfl), (ro_a hb_3k (by decide) hb_3o hka1 rfl)⟩⟩
  obtain ⟨s_4, hs_4⟩ : ∃ z, TBq I J a1 b_1 b_2 b_3 = z := ⟨_, rfl⟩
  obtain ⟨b_5, hb_5, hb_5L, hb_5k, hb_5n, hb_5o⟩ := shp_a (W9 a0 hLa0) hka0 0 13 940 rfl (by decide)
  obtain ⟨b_6, hb_6, hb_6L, hb_6k, hb_6n, hb_6o⟩ := shp_a (W9 a0 hLa0) hka0 1 15 28 rfl (by decide)
  obtain ⟨b_7, hb_7, hb_7L, hb_7k, hb_7n, hb_7o⟩ := shp_a (W9 a0 hLa0) hka0 2 14 901 rfl (by decide)
  obtain ⟨b_8, hb_8, hb_8L, hb_8k, hb_8n, hb_8o⟩ := shp_a (W9 a0 hLa0) hka0 3 14 901 rfl (by decide)
  obtain ⟨b_9, hb_9, hb_9L, hb_9k, hb_9n, hb_9o⟩ := shp_a (W9 a0 hLa0) hka0 4 15 901 rfl (by decide)
  have etqa0 : ∀ I J, TPf R I J a0 = TPq I J a0 b_5 b_6 b_7 b_8 b_9 := fun I J => by simp only [TPf, rr_, Option.getD_some, hb_5, hb_6, hb_7, hb_8, hb_9]
  have wtqa0 : tqw_ L κ ow a0 b_5 b_6 b_7 b_8 b_9 := ⟨⟨hLa0, hb_5L, hb_6L, hb_7L, hb_8L, hb_9L⟩, ⟨(ro_o hka0 (by decide)), (ro_a hb_5k (by decide) hb_5o hka0 rfl), (ro_a hb_6k (by decide) hb_6o hka0 rfl), (ro_a hb_7k (by decide) hb_7o hka0 rfl), (ro_a hb_8k (by decide) hb_8o hka0 rfl), (ro_a hb_9k (by decide) hb_9o hka0 rfl)⟩⟩
  obtain ⟨s_10, hs_10⟩ : ∃ z, TPq I J a0 b_5 b_6 b_7 b_8 b_9 = z := ⟨_, rfl⟩
  have esqx : ∀ I J, SPf R I J x = SPq I J x := fun I J => by simp only [SPf, rr_, Option.getD_some]
  have wsqx : sqw_ L κ ow x := ⟨hLx, (ro_o hkx (by decide))⟩
  obtain ⟨s_11, hs_11⟩ : ∃ z, SPq I J x = z := ⟨_, rfl⟩
  refine g_lo (is := [0, 1, 2, 3]) (lo2 := [(0, .ref x), (1, .ref a0), (2, .ref a1), (3, .int a2)]) rfl ?_
  refine g_aload_n C 1 dX7_readOne_0 rfl rfl ?_
  obtain ⟨x_12, hx_12, rx_12⟩ := ex_get (I := I) (a := a0) (j := 8) (lo := (-2147483648)) (hi := 2147483647) hU.1 hLa0 (ro_o hka0 (by decide)) rfl
  have f_13 : s_10.token = x_12 := (congrArg TP_.token hs_10).symm.trans hx_12
  refine g_getI C K hLa0 hka0 f_7_57 (v := x_12) hx_12 dX7_readOne_1 ?_
  refine g_istore C dX7_readOne_4 (by decide) (lo2 := [(4, .int x_12), (0, .ref x), (1, .ref a0), (2, .ref a1), (3, .int a2)]) rfl ?_
  refine g_iload C 0 dX7_readOne_6 rfl ?_
  refine g_callSI C K (c_X7_beginsOne W9 x_12  hU) s_7_70 rfl ⟨rfl, rfl⟩ ⟨Nat.le_of_ble_eq_true rfl, Nat.le_of_ble_eq_true rfl⟩ (Nat.le_of_ble_eq_true rfl) ⟨Nat.le_of_ble_eq_true rfl, Nat.le_of_ble_eq_true rfl⟩ dX7_readOne_8 rfl (st := []) (fun x_14 I_15 J_16 h_17 => ?_)
  obtain ⟨rfl, rfl, rx_14, fx_14⟩ := h_17
  have c_18 : fBegOne (x_12) = x_14 := fx_14.symm
  refine g_if_ne C (tgt := 20) dX7_readOne_11 (by decide) (fun h_19 => ?_) (fun h_19 => ?_)
  · skip
    have n_20 : ¬ x_14 = 0 := h_19
    have r_21 := ne_lo (lo := 1) n_20 rx_14 rc_0 rfl (by decide)
    refine g_aload_n C 1 dX7_readOne_20 rfl rfl ?_
    obtain ⟨x_22, hx_22, rx_22⟩ := ex_get (I := I) (a := x) (j := 5) (lo := (-2147483648)) (hi := 2147483647) hU.1 hLx (ro_o hkx (by decide)) rfl
    have f_23 : s_11.so = x_22 := (congrArg SP_.so hs_11).symm.trans hx_22
    refine g_getI C K hLx hkx f_7_28 (v := x_22) hx_22 dX7_readOne_21 ?_
    refine g_bipush C (v := 20) dX7_readOne_24 (by decide) ?_
    refine g_icmp_ge C (tgt := 35) dX7_readOne_26 (by decide) (fun h_24 => ?_) (fun h_24 => ?_)
    · skip
      have r_25 := le_r (h_24) rc_20 rx_22
      refine g_aload_n C 2 dX7_readOne_35 rfl rfl ?_
      refine g_iconst C (v := 4) dX7_readOne_36 (by decide) ?_
      refine g_callVI C K (c_X10_fail W9 hLa0 hka0 4 (rg_w rc_4 (by decide) (by decide)) hU) hLa0 hka0 (by decide) rfl v_7_73 rfl ⟨rfl, rfl⟩ ⟨Nat.le_of_ble_eq_true rfl, Nat.le_of_ble_eq_true rfl⟩ (Nat.le_of_ble_eq_true rfl) ⟨Nat.le_of_ble_eq_true rfl, Nat.le_of_ble_eq_true rfl⟩ dX7_readOne_37 rfl (st := []) (fun x_26 I_27 J_28 h_29 => ?_)
      obtain ⟨hUI_27, hFI_27, hGJ_28, rx_26, fx_26⟩ := h_29
      have hF_30 := fq_tr hF hFI_27 (by decide)
      have hG_31 := fq_tr hG hGJ_28 (by decide)
      obtain ⟨s_33, hs_33⟩ : ∃ z, TPq I_27 J_28 a0 b_5 b_6 b_7 b_8 b_9 = z := ⟨_, rfl⟩
      have c_32 : fFail (4) (s_10) = (x_26, s_33) := by have q := fx_26; simp only [etqa0, hs_10, hs_33] at q; exact q.symm
      have hs_34 : TBq I_27 J_28 a1 b_1 b_2 b_3 = s_4 := (bq_fq wbqa1 hFI_27 hGJ_28 (by decide) (by decide)).trans hs_4
      have hs_35 : SPq I_27 J_28 x = s_11 := (sq_fq wsqx hFI_27 hGJ_28 (by decide) (by decide)).trans hs_11
      exact g_zret (ty := .boolean) (r := x_26) B K rfl (nar_z (rg_w rx_26 (by decide) (by decide))) ⟨hUI_27, hF_30, hG_31, rg_w rx_26 (by decide) (by decide), (by simp only [fOne_k4, fAnd2, fFailS, fCmp, ebqa1, hs_34, hs_4, etqa0, hs_33, hs_10, esqx, hs_35, hs_11, hx_12, f_13, c_18, h_19, hx_22, f_23, h_24, c_32, if_true, if_false, bqM_pnm, bqM_par, bqM_dnm, bqM_persons, bqM_dishes, bqM_law, bqM_dogs, TB_.w_pnm, TB_.w_par, TB_.w_dnm, TB_.w_persons, TB_.w_dishes, TB_.w_law, TB_.w_dogs, sqM_sl, sqM_so, SP_.w_sl, SP_.w_so, tqM_by_, tqM_wd, tqM_tk, tqM_pl, tqM_vl, tqM_len, tqM_n, tqM_at_, tqM_token, tqM_place, tqM_value, tqM_fault, tqM_fat, TP_.w_by_, TP_.w_wd, TP_.w_tk, TP_.w_pl, TP_.w_vl, TP_.w_len, TP_.w_n, TP_.w_at_, TP_.w_token, TP_.w_place, TP_.w_value, TP_.w_fault, TP_.w_fat])⟩ dX7_readOne_40
    · skip
      have r_36 := lt_l (hi := 19) (nle h_24) rx_22 rc_20 (by decide)
      refine g_iload_n C 4 dX7_readOne_29 rfl rfl ?_
      refine g_bipush C (v := 8) dX7_readOne_30 (by decide) ?_
      refine g_icmp_le C (tgt := 41) dX7_readOne_32 (by decide) (fun h_37 => ?_) (fun h_37 => ?_)
      · skip
        refine g_aload_n C 1 dX7_readOne_41 rfl rfl ?_
        refine g_dup C dX7_readOne_42 rfl ?_
        refine g_getI C K hLx hkx f_7_28 (v := x_22) hx_22 dX7_readOne_43 ?_
        refine g_iconst C (v := 1) dX7_readOne_46 (by decide) ?_
        obtain ⟨x_38, hx_38, rx_38, tx_38⟩ := ex_add (-2147483647) 20 r_36 rc_1 (by decide) (by decide) (by decide) (by decide)
        refine g_iadd C (v := x_38) dX7_readOne_47 hx_38 ?_
        refine h_putI C K hLx hkx f_7_28 p_7_5 dX7_readOne_48 (fun I_39 hI_39 => ?_)
        have hU_40 := iv_put W9 hU hI_39 (ro_o hkx (by decide)) (lo := (-2147483648)) (hi := 2147483647) (rfl) (rg_all _) rfl
        have hF_41 := fq_puto hF hI_39 hkx (by decide) (by decide)
        have hs_42 : TBq I_39 J a1 b_1 b_2 b_3 = s_4 := by rw [hI_39]; exact (bq_oI wbqa1 (ro_o hkx (by decide)) (by decide)).trans hs_4
        have hs_43 : TPq I_39 J a0 b_5 b_6 b_7 b_8 b_9 = s_10 := by rw [hI_39]; exact (tq_oI wtqa0 (ro_o hkx (by decide)) (by decide)).trans hs_10
        have hs_44 : SPq I_39 J x = (SP_.w_so s_11 (x_38)) := by rw [hI_39]; exact ((sq_so wsqx).trans (congrArg (fun z : SP_ => SP_.w_so z (x_38)) hs_11)).trans rfl
        refine g_aload_n C 2 dX7_readOne_51 rfl rfl ?_
        refine g_callVV C K (c_X10_advance W9 hLa0 hka0   hU_40) hLa0 hka0 (by decide) rfl v_7_60 rfl ⟨rfl, rfl⟩ ⟨Nat.le_of_ble_eq_true rfl, Nat.le_of_ble_eq_true rfl⟩ (Nat.le_of_ble_eq_true rfl) ⟨Nat.le_of_ble_eq_true rfl, Nat.le_of_ble_eq_true rfl⟩ dX7_readOne_52 rfl (st := []) (fun I_46 J_47 h_48 => ?_)
        obtain ⟨hUI_46, hFI_46, hGJ_47, fx_45⟩ := h_48
        have hF_49 := fq_tr hF_41 hFI_46 (by decide)
        have hG_50 := fq_tr hG hGJ_47 (by decide)
        obtain ⟨s_52, hs_52⟩ : ∃ z, TPq I_46 J_47 a0 b_5 b_6 b_7 b_8 b_9 = z := ⟨_, rfl⟩
        have c_51 : fAdvance (s_10) = s_52 := by have q := fx_45; simp only [etqa0, hs_43, hs_52] at q; exact q.symm
        have hs_53 : TBq I_46 J_47 a1 b_1 b_2 b_3 = s_4 := (bq_fq wbqa1 hFI_46 hGJ_47 (by decide) (by decide)).trans hs_42
        have hs_54 : SPq I_46 J_47 x = (SP_.w_so s_11 (x_38)) := (sq_fq wsqx hFI_46 hGJ_47 (by decide) (by decide)).trans hs_44
        refine g_iload C 0 dX7_readOne_55 rfl ?_
        refine g_bipush C (v := 40) dX7_readOne_57 (by decide) ?_
        refine g_icmp_ne C (tgt := 89) dX7_readOne_59 (by decide) (fun h_55 => ?_) (fun h_55 => ?_)
        · skip
          have n_56 : ¬ x_12 = 40 := h_55
          refine g_iload C 0 dX7_readOne_89 rfl ?_
          refine g_bipush C (v := 19) dX7_readOne_91 (by decide) ?_
          refine g_icmp_ne C (tgt := 125) dX7_readOne_93 (by decide) (fun h_57 => ?_) (fun h_57 => ?_)
          · skip
            have n_58 : ¬ x_12 = 19 := h_57
            refine g_aload_n C 1 dX7_readOne_125 rfl rfl ?_
            refine g_aload_n C 2 dX7_readOne_126 rfl rfl ?_
            refine g_aload_n C 3 dX7_readOne_127 rfl rfl ?_
            refine g_iload C 0 dX7_readOne_128 rfl ?_
            refine g_callVI C K (c_X7_readPlainOne W9 hLx hkx hLa0 hka0 hLa1 hka1 x_12  hUI_46) hLx hkx (by decide) rfl v_7_76 rfl ⟨rfl, rfl⟩ ⟨Nat.le_of_ble_eq_true rfl, Nat.le_of_ble_eq_true rfl⟩ (Nat.le_of_ble_eq_true rfl) ⟨Nat.le_of_ble_eq_true rfl, Nat.le_of_ble_eq_true rfl⟩ dX7_readOne_130 rfl (st := []) (fun x_59 I_60 J_61 h_62 => ?_)
            obtain ⟨hUI_60, hFI_60, hGJ_61, rx_59, fx_59⟩ := h_62
            have hF_63 := fq_tr hF_49 hFI_60 (by decide)
            have hG_64 := fq_tr hG_50 hGJ_61 (by decide)
            obtain ⟨s_66, hs_66⟩ : ∃ z, TPq I_60 J_61 a0 b_5 b_6 b_7 b_8 b_9 = z := ⟨_, rfl⟩
            obtain ⟨s_67, hs_67⟩ : ∃ z, SPq I_60 J_61 x = z := ⟨_, rfl⟩
            have c_65 : fPlain (x_12) (s_4) (s_52) ((SP_.w_so s_11 (x_38))) = (x_59, s_66, s_67) := by have q := fx_59; simp only [ebqa1, etqa0, esqx, hs_53, hs_52, hs_54, hs_66, hs_67] at q; exact q.symm
            have hs_68 : TBq I_60 J_61 a1 b_1 b_2 b_3 = s_4 := (bq_fq wbqa1 hFI_60 hGJ_61 (by decide) (by decide)).trans hs_53
            exact g_zret (ty := .boolean) (r := x_59) B K rfl (nar_z (rx_59)) ⟨hUI_60, hF_63, hG_64, rx_59, (by (try simp only [hx_12, f_13, c_18, h_19, hx_22, f_23, h_24, (nle h_24), h_37, hx_38, c_51, h_55, h_57, if_true, if_false, bqM_pnm, bqM_par, bqM_dnm, bqM_persons, bqM_dishes, bqM_law, bqM_dogs, TB_.w_pnm, TB_.w_par, TB_.w_dnm, TB_.w_persons, TB_.w_dishes, TB_.w_law, TB_.w_dogs, sqM_sl, sqM_so, SP_.w_sl, SP_.w_so, tqM_by_, tqM_wd, tqM_tk, tqM_pl, tqM_vl, tqM_len, tqM_n, tqM_at_, tqM_token, tqM_place, tqM_value, tqM_fault, tqM_fat, TP_.w_by_, TP_.w_wd, TP_.w_tk, TP_.w_pl, TP_.w_vl, TP_.w_len, TP_.w_n, TP_.w_at_, TP_.w_token, TP_.w_place, TP_.w_value, TP_.w_fault, TP_.w_fat] at c_65); simp only [fOne_k4, fAnd2, fFailS, fCmp, ebqa1, hs_68, hs_4, etqa0, hs_66, hs_10, esqx, hs_67, hs_11, hx_12, f_13, c_18, h_19, hx_22, f_23, h_24, (nle h_24), h_37, hx_38, c_51, h_55, h_57, c_65, if_true, if_false, bqM_pnm, bqM_par, bqM_dnm, bqM_persons, bqM_dishes, bqM_law, bqM_dogs, TB_.w_pnm, TB_.w_par, TB_.w_dnm, TB_.w_persons, TB_.w_dishes, TB_.w_law, TB_.w_dogs, sqM_sl, sqM_so, SP_.w_sl, SP_.w_so, tqM_by_, tqM_wd, tqM_tk, tqM_pl, tqM_vl, tqM_len, tqM_n, tqM_at_, tqM_token, tqM_place, tqM_value, tqM_fault, tqM_fat, TP_.w_by_, TP_.w_wd, TP_.w_tk, TP_.w_pl, TP_.w_vl, TP_.w_len, TP_.w_n, TP_.w_at_, TP_.w_token, TP_.w_place, TP_.w_value, TP_.w_fault, TP_.w_fat])⟩ dX7_readOne_133
          · skip
            have r_69 := (⟨(eq_rg (h_57) rc_19).1, (eq_rg (h_57) rc_19).2⟩ : Rg 19 19 x_12)
            refine g_aload_n C 1 dX7_readOne_96 rfl rfl ?_
            refine g_aload_n C 2 dX7_readOne_97 rfl rfl ?_
            refine g_aload_n C 3 dX7_readOne_98 rfl rfl ?_
            refine g_iload_n C 4 dX7_readOne_99 rfl rfl ?_
            refine g_iconst C (v := 1) dX7_readOne_100 (by decide) ?_
            obtain ⟨x_70, hx_70, rx_70, tx_70⟩ := ex_add 6 6 ra2 rc_1 (by decide) (by decide) (by decide) (by decide)
            refine g_iadd C (v := x_70) dX7_readOne_101 hx_70 ?_
            refine g_callVI C K (c_X7_readOne_6 W9 hLx hkx hLa0 hka0 hLa1 hka1 x_70 (rx_70) hUI_46) hLx hkx (by decide) rfl v_7_67 rfl ⟨rfl, rfl⟩ ⟨Nat.le_of_ble_eq_true rfl, Nat.le_of_ble_eq_true rfl⟩ (Nat.le_of_ble_eq_true rfl) ⟨Nat.le_of_ble_eq_true rfl, Nat.le_of_ble_eq_true rfl⟩ dX7_readOne_102 rfl (st := []) (fun x_71 I_72 J_73 h_74 => ?_)
            obtain ⟨hUI_72, hFI_72, hGJ_73, rx_71, fx_71⟩ := h_74
            have hF_75 := fq_tr hF_49 hFI_72 (by decide)
            have hG_76 := fq_tr hG_50 hGJ_73 (by decide)
            obtain ⟨s_78, hs_78⟩ : ∃ z, TPq I_72 J_73 a0 b_5 b_6 b_7 b_8 b_9 = z := ⟨_, rfl⟩
            obtain ⟨s_79, hs_79⟩ : ∃ z, SPq I_72 J_73 x = z := ⟨_, rfl⟩
            have c_77 : fOne 3 (s_4) (s_52) ((SP_.w_so s_11 (x_38))) = (x_71, s_78, s_79) := by have q := fx_71; simp only [ebqa1, etqa0, esqx, hs_53, hs_52, hs_54, hs_78, hs_79] at q; exact q.symm
            have hs_80 : TBq I_72 J_73 a1 b_1 b_2 b_3 = s_4 := (bq_fq wbqa1 hFI_72 hGJ_73 (by decide) (by decide)).trans hs_53
            refine g_if_eq C (tgt := 123) dX7_readOne_105 (by decide) (fun h_81 => ?_) (fun h_81 => ?_)
            · skip
              have r_82 := (⟨(rx_71).1, (eq_rg (h_81) rc_0).2⟩ : Rg 0 0 x_71)
              refine g_iconst C (v := 0) dX7_readOne_123 (by decide) ?_
              exact g_zret (ty := .boolean) (r := 0) B K rfl (rfl) ⟨hUI_72, hF_75, hG_76, rg_w rc_0 (by decide) (by decide), (by (try simp only [hx_12, f_13, c_18, h_19, hx_22, f_23, h_24, (nle h_24), h_37, hx_38, c_51, h_55, (eq_true h_57), hx_70, (eq_true h_81), if_true, if_false, bqM_pnm, bqM_par, bqM_dnm, bqM_persons, bqM_dishes, bqM_law, bqM_dogs, TB_.w_pnm, TB_.w_par, TB_.w_dnm, TB_.w_persons, TB_.w_dishes, TB_.w_law, TB_.w_dogs, sqM_sl, sqM_so, SP_.w_sl, SP_.w_so, tqM_by_, tqM_wd, tqM_tk, tqM_pl, tqM_vl, tqM_len, tqM_n, tqM_at_, tqM_token, tqM_place, tqM_value, tqM_fault, tqM_fat, TP_.w_by_, TP_.w_wd, TP_.w_tk, TP_.w_pl, TP_.w_vl, TP_.w_len, TP_.w_n, TP_.w_at_, TP_.w_token, TP_.w_place, TP_.w_value, TP_.w_fault, TP_.w_fat] at c_77); simp only [fOne_k4, fAnd2, fFailS, fCmp, ebqa1, hs_80, hs_4, etqa0, hs_78, hs_10, esqx, hs_79, hs_11, hx_12, f_13, c_18, h_19, hx_22, f_23, h_24, (nle h_24), h_37, hx_38, c_51, h_55, (eq_true h_57), hx_70, c_77, (eq_true h_81), if_true, if_false, bqM_pnm, bqM_par, bqM_dnm, bqM_persons, bqM_dishes, bqM_law, bqM_dogs, TB_.w_pnm, TB_.w_par, TB_.w_dnm, TB_.w_persons, TB_.w_dishes, TB_.w_law, TB_.w_dogs, sqM_sl, sqM_so, SP_.w_sl, SP_.w_so, tqM_by_, tqM_wd, tqM_tk, tqM_pl, tqM_vl, tqM_len, tqM_n, tqM_at_, tqM_token, tqM_place, tqM_value, tqM_fault, tqM_fat, TP_.w_by_, TP_.w_wd, TP_.w_tk, TP_.w_pl, TP_.w_vl, TP_.w_len, TP_.w_n, TP_.w_at_, TP_.w_token, TP_.w_place, TP_.w_value, TP_.w_fault, TP_.w_fat])⟩ dX7_readOne_124
            · skip
              have n_83 : ¬ x_71 = 0 := h_81
              have r_84 := ne_lo (lo := 1) n_83 rx_71 rc_0 rfl (by decide)
              refine g_aload_n C 1 dX7_readOne_108 rfl rfl ?_
              refine g_bipush C (v := 19) dX7_readOne_109 (by decide) ?_
              refine g_iconst C (v := 0) dX7_readOne_111 (by decide) ?_
              refine g_iconst C (v := 0) dX7_readOne_112 (by decide) ?_
              refine g_callVI C K (c_X7_addStep W9 hLx hkx 19 0 0 (rg_w rc_0 (by decide) (by decide)) hUI_72  (fun q => absurd q (by decide))) hLx hkx (by decide) rfl v_7_63 rfl ⟨rfl, rfl⟩ ⟨Nat.le_of_ble_eq_true rfl, Nat.le_of_ble_eq_true rfl⟩ (Nat.le_of_ble_eq_true rfl) ⟨Nat.le_of_ble_eq_true rfl, Nat.le_of_ble_eq_true rfl⟩ dX7_readOne_113 rfl (st := []) (fun x_85 I_86 J_87 h_88 => ?_)
              obtain ⟨hUI_86, hFI_86, hGJ_87, rx_85, fx_85⟩ := h_88
              have hF_89 := fq_tr hF_75 hFI_86 (by decide)
              have hG_90 := fq_tr hG_76 hGJ_87 (by decide)
              obtain ⟨s_92, hs_92⟩ : ∃ z, SPq I_86 J_87 x = z := ⟨_, rfl⟩
              have c_91 : fAddStep (s_79) = (x_85, s_92) := by have q := fx_85; simp only [esqx, hs_79, hs_92] at q; exact q.symm
              have hs_93 : TBq I_86 J_87 a1 b_1 b_2 b_3 = s_4 := (bq_fq wbqa1 hFI_86 hGJ_87 (by decide) (by decide)).trans hs_80
              have hs_94 : TPq I_86 J_87 a0 b_5 b_6 b_7 b_8 b_9 = s_78 := (tq_fq wtqa0 hFI_86 hGJ_87 (by decide) (by decide)).trans hs_78
              refine g_if_eq C (tgt := 123) dX7_readOne_116 (by decide) (fun h_95 => ?_) (fun h_95 => ?_)
              · skip
                have r_96 := (⟨(rx_85).1, (eq_rg (h_95) rc_0).2⟩ : Rg 0 0 x_85)
                refine g_iconst C (v := 0) dX7_readOne_123 (by decide) ?_
                exact g_zret (ty := .boolean) (r := 0) B K rfl (rfl) ⟨hUI_86, hF_89, hG_90, rg_w rc_0 (by decide) (by decide), (by (try simp only [hx_12, f_13, c_18, h_19, hx_22, f_23, h_24, (nle h_24), h_37, hx_38, c_51, h_55, (eq_true h_57), hx_70, h_81, c_91, (eq_true h_95), if_true, if_false, bqM_pnm, bqM_par, bqM_dnm, bqM_persons, bqM_dishes, bqM_law, bqM_dogs, TB_.w_pnm, TB_.w_par, TB_.w_dnm, TB_.w_persons, TB_.w_dishes, TB_.w_law, TB_.w_dogs, sqM_sl, sqM_so, SP_.w_sl, SP_.w_so, tqM_by_, tqM_wd, tqM_tk, tqM_pl, tqM_vl, tqM_len, tqM_n, tqM_at_, tqM_token, tqM_place, tqM_value, tqM_fault, tqM_fat, TP_.w_by_, TP_.w_wd, TP_.w_tk, TP_.w_pl, TP_.w_vl, TP_.w_len, TP_.w_n, TP_.w_at_, TP_.w_token, TP_.w_place, TP_.w_value, TP_.w_fault, TP_.w_fat] at c_77); simp only [fOne_k4, fAnd2, fFailS, fCmp, ebqa1, hs_93, hs_4, etqa0, hs_94, hs_10, esqx, hs_92, hs_11, hx_12, f_13, c_18, h_19, hx_22, f_23, h_24, (nle h_24), h_37, hx_38, c_51, h_55, (eq_true h_57), hx_70, c_77, h_81, c_91, (eq_true h_95), if_true, if_false, bqM_pnm, bqM_par, bqM_dnm, bqM_persons, bqM_dishes, bqM_law, bqM_dogs, TB_.w_pnm, TB_.w_par, TB_.w_dnm, TB_.w_persons, TB_.w_dishes, TB_.w_law, TB_.w_dogs, sqM_sl, sqM_so, SP_.w_sl, SP_.w_so, tqM_by_, tqM_wd, tqM_tk, tqM_pl, tqM_vl, tqM_len, tqM_n, tqM_at_, tqM_token, tqM_place, tqM_value, tqM_fault, tqM_fat, TP_.w_by_, TP_.w_wd, TP_.w_tk, TP_.w_pl, TP_.w_vl, TP_.w_len, TP_.w_n, TP_.w_at_, TP_.w_token, TP_.w_place, TP_.w_value, TP_.w_fault, TP_.w_fat])⟩ dX7_readOne_124
              · skip
                have n_97 : ¬ x_85 = 0 := h_95
                have r_98 := ne_lo (lo := 1) n_97 rx_85 rc_0 rfl (by decide)
                refine g_iconst C (v := 1) dX7_readOne_119 (by decide) ?_
                refine g_goto C (tgt := 124) dX7_readOne_120 (by decide) ?_
                exact g_zret (ty := .boolean) (r := 1) B K rfl (rfl) ⟨hUI_86, hF_89, hG_90, rg_w rc_1 (by decide) (by decide), (by (try simp only [hx_12, f_13, c_18, h_19, hx_22, f_23, h_24, (nle h_24), h_37, hx_38, c_51, h_55, (eq_true h_57), hx_70, h_81, c_91, h_95, if_true, if_false, bqM_pnm, bqM_par, bqM_dnm, bqM_persons, bqM_dishes, bqM_law, bqM_dogs, TB_.w_pnm, TB_.w_par, TB_.w_dnm, TB_.w_persons, TB_.w_dishes, TB_.w_law, TB_.w_dogs, sqM_sl, sqM_so, SP_.w_sl, SP_.w_so, tqM_by_, tqM_wd, tqM_tk, tqM_pl, tqM_vl, tqM_len, tqM_n, tqM_at_, tqM_token, tqM_place, tqM_value, tqM_fault, tqM_fat, TP_.w_by_, TP_.w_wd, TP_.w_tk, TP_.w_pl, TP_.w_vl, TP_.w_len, TP_.w_n, TP_.w_at_, TP_.w_token, TP_.w_place, TP_.w_value, TP_.w_fault, TP_.w_fat] at c_77); simp only [fOne_k4, fAnd2, fFailS, fCmp, ebqa1, hs_93, hs_4, etqa0, hs_94, hs_10, esqx, hs_92, hs_11, hx_12, f_13, c_18, h_19, hx_22, f_23, h_24, (nle h_24), h_37, hx_38, c_51, h_55, (eq_true h_57), hx_70, c_77, h_81, c_91, h_95, if_true, if_false, bqM_pnm, bqM_par, bqM_dnm, bqM_persons, bqM_dishes, bqM_law, bqM_dogs, TB_.w_pnm, TB_.w_par, TB_.w_dnm, TB_.w_persons, TB_.w_dishes, TB_.w_law, TB_.w_dogs, sqM_sl, sqM_so, SP_.w_sl, SP_.w_so, tqM_by_, tqM_wd, tqM_tk, tqM_pl, tqM_vl, tqM_len, tqM_n, tqM_at_, tqM_token, tqM_place, tqM_value, tqM_fault, tqM_fat, TP_.w_by_, TP_.w_wd, TP_.w_tk, TP_.w_pl, TP_.w_vl, TP_.w_len, TP_.w_n, TP_.w_at_, TP_.w_token, TP_.w_place, TP_.w_value, TP_.w_fault, TP_.w_fat])⟩ dX7_readOne_124
        · skip
          have r_99 := (⟨(eq_rg (h_55) rc_40).1, (eq_rg (h_55) rc_40).2⟩ : Rg 40 40 x_12)
          refine g_aload_n C 1 dX7_readOne_62 rfl rfl ?_
          refine g_aload_n C 2 dX7_readOne_63 rfl rfl ?_
          refine g_aload_n C 3 dX7_readOne_64 rfl rfl ?_
          refine g_iload_n C 4 dX7_readOne_65 rfl rfl ?_
          refine g_iconst C (v := 1) dX7_readOne_66 (by decide) ?_
          obtain ⟨x_100, hx_100, rx_100, tx_100⟩ := ex_add 6 6 ra2 rc_1 (by decide) (by decide) (by decide) (by decide)
          refine g_iadd C (v := x_100) dX7_readOne_67 hx_100 ?_
          refine g_callVI C K (c_X7_readCond_6 W9 hLx hkx hLa0 hka0 hLa1 hka1 x_100 (rx_100) hUI_46) hLx hkx (by decide) rfl v_7_46 rfl ⟨rfl, rfl⟩ ⟨Nat.le_of_ble_eq_true rfl, Nat.le_of_ble_eq_true rfl⟩ (Nat.le_of_ble_eq_true rfl) ⟨Nat.le_of_ble_eq_true rfl, Nat.le_of_ble_eq_true rfl⟩ dX7_readOne_68 rfl (st := []) (fun x_101 I_102 J_103 h_104 => ?_)
          obtain ⟨hUI_102, hFI_102, hGJ_103, rx_101, fx_101⟩ := h_104
          have hF_105 := fq_tr hF_49 hFI_102 (by decide)
          have hG_106 := fq_tr hG_50 hGJ_103 (by decide)
          obtain ⟨s_108, hs_108⟩ : ∃ z, TPq I_102 J_103 a0 b_5 b_6 b_7 b_8 b_9 = z := ⟨_, rfl⟩
          obtain ⟨s_109, hs_109⟩ : ∃ z, SPq I_102 J_103 x = z := ⟨_, rfl⟩
          have c_107 : fCond 3 (s_4) (s_52) ((SP_.w_so s_11 (x_38))) = (x_101, s_108, s_109) := by have q := fx_101; simp only [ebqa1, etqa0, esqx, hs_53, hs_52, hs_54, hs_108, hs_109] at q; exact q.symm
          have hs_110 : TBq I_102 J_103 a1 b_1 b_2 b_3 = s_4 := (bq_fq wbqa1 hFI_102 hGJ_103 (by decide) (by decide)).trans hs_53
          refine g_if_eq C (tgt := 87) dX7_readOne_71 (by decide) (fun h_111 => ?_) (fun h_111 => ?_)
          · skip
            have r_112 := (⟨(rx_101).1, (eq_rg (h_111) rc_0).2⟩ : Rg 0 0 x_101)
            refine g_iconst C (v := 0) dX7_readOne_87 (by decide) ?_
            exact g_zret (ty := .boolean) (r := 0) B K rfl (rfl) ⟨hUI_102, hF_105, hG_106, rg_w rc_0 (by decide) (by decide), (by (try simp only [hx_12, f_13, c_18, h_19, hx_22, f_23, h_24, (nle h_24), h_37, hx_38, c_51, (eq_true h_55), hx_100, (eq_true h_111), if_true, if_false, bqM_pnm, bqM_par, bqM_dnm, bqM_persons, bqM_dishes, bqM_law, bqM_dogs, TB_.w_pnm, TB_.w_par, TB_.w_dnm, TB_.w_persons, TB_.w_dishes, TB_.w_law, TB_.w_dogs, sqM_sl, sqM_so, SP_.w_sl, SP_.w_so, tqM_by_, tqM_wd, tqM_tk, tqM_pl, tqM_vl, tqM_len, tqM_n, tqM_at_, tqM_token, tqM_place, tqM_value, tqM_fault, tqM_fat, TP_.w_by_, TP_.w_wd, TP_.w_tk, TP_.w_pl, TP_.w_vl, TP_.w_len, TP_.w_n, TP_.w_at_, TP_.w_token, TP_.w_place, TP_.w_value, TP_.w_fault, TP_.w_fat] at c_107); simp only [fOne_k4, fAnd2, fFailS, fCmp, ebqa1, hs_110, hs_4, etqa0, hs_108, hs_10, esqx, hs_109, hs_11, hx_12, f_13, c_18, h_19, hx_22, f_23, h_24, (nle h_24), h_37, hx_38, c_51, (eq_true h_55), hx_100, c_107, (eq_true h_111), if_true, if_false, bqM_pnm, bqM_par, bqM_dnm, bqM_persons, bqM_dishes, bqM_law, bqM_dogs, TB_.w_pnm, TB_.w_par, TB_.w_dnm, TB_.w_persons, TB_.w_dishes, TB_.w_law, TB_.w_dogs, sqM_sl, sqM_so, SP_.w_sl, SP_.w_so, tqM_by_, tqM_wd, tqM_tk, tqM_pl, tqM_vl, tqM_len, tqM_n, tqM_at_, tqM_token, tqM_place, tqM_value, tqM_fault, tqM_fat, TP_.w_by_, TP_.w_wd, TP_.w_tk, TP_.w_pl, TP_.w_vl, TP_.w_len, TP_.w_n, TP_.w_at_, TP_.w_token, TP_.w_place, TP_.w_value, TP_.w_fault, TP_.w_fat])⟩ dX7_readOne_88
          · skip
            have n_113 : ¬ x_101 = 0 := h_111
            have r_114 := ne_lo (lo := 1) n_113 rx_101 rc_0 rfl (by decide)
            refine g_aload_n C 2 dX7_readOne_74 rfl rfl ?_
            refine g_bipush C (v := 41) dX7_readOne_75 (by decide) ?_
            refine g_callVI C K (c_X10_take W9 hLa0 hka0 41 (rg_w rc_41 (by decide) (by decide)) hUI_102) hLa0 hka0 (by decide) rfl v_7_50 rfl ⟨rfl, rfl⟩ ⟨Nat.le_of_ble_eq_true rfl, Nat.le_of_ble_eq_true rfl⟩ (Nat.le_of_ble_eq_true rfl) ⟨Nat.le_of_ble_eq_true rfl, Nat.le_of_ble_eq_true rfl⟩ dX7_readOne_77 rfl (st := []) (fun x_115 I_116 J_117 h_118 => ?_)
            obtain ⟨hUI_116, hFI_116, hGJ_117, rx_115, fx_115⟩ := h_118
            have hF_119 := fq_tr hF_105 hFI_116 (by decide)
            have hG_120 := fq_tr hG_106 hGJ_117 (by decide)
            obtain ⟨s_122, hs_122⟩ : ∃ z, TPq I_116 J_117 a0 b_5 b_6 b_7 b_8 b_9 = z := ⟨_, rfl⟩
            have c_121 : fTake (41) (s_108) = (x_115, s_122) := by have q := fx_115; simp only [etqa0, hs_108, hs_122] at q; exact q.symm
            have hs_123 : TBq I_116 J_117 a1 b_1 b_2 b_3 = s_4 := (bq_fq wbqa1 hFI_116 hGJ_117 (by decide) (by decide)).trans hs_110
            have hs_124 : SPq I_116 J_117 x = s_109 := (sq_fq wsqx hFI_116 hGJ_117 (by decide) (by decide)).trans hs_109
            refine g_if_eq C (tgt := 87) dX7_readOne_80 (by decide) (fun h_125 => ?_) (fun h_125 => ?_)
            · skip
              have r_126 := (⟨(rx_115).1, (eq_rg (h_125) rc_0).2⟩ : Rg 0 0 x_115)
              refine g_iconst C (v := 0) dX7_readOne_87 (by decide) ?_
              exact g_zret (ty := .boolean) (r := 0) B K rfl (rfl) ⟨hUI_116, hF_119, hG_120, rg_w rc_0 (by decide) (by decide), (by (try simp only [hx_12, f_13, c_18, h_19, hx_22, f_23, h_24, (nle h_24), h_37, hx_38, c_51, (eq_true h_55), hx_100, h_111, c_121, (eq_true h_125), if_true, if_false, bqM_pnm, bqM_par, bqM_dnm, bqM_persons, bqM_dishes, bqM_law, bqM_dogs, TB_.w_pnm, TB_.w_par, TB_.w_dnm, TB_.w_persons, TB_.w_dishes, TB_.w_law, TB_.w_dogs, sqM_sl, sqM_so, SP_.w_sl, SP_.w_so, tqM_by_, tqM_wd, tqM_tk, tqM_pl, tqM_vl, tqM_len, tqM_n, tqM_at_, tqM_token, tqM_place, tqM_value, tqM_fault, tqM_fat, TP_.w_by_, TP_.w_wd, TP_.w_tk, TP_.w_pl, TP_.w_vl, TP_.w_len, TP_.w_n, TP_.w_at_, TP_.w_token, TP_.w_place, TP_.w_value, TP_.w_fault, TP_.w_fat] at c_107); simp only [fOne_k4, fAnd2, fFailS, fCmp, ebqa1, hs_123, hs_4, etqa0, hs_122, hs_10, esqx, hs_124, hs_11, hx_12, f_13, c_18, h_19, hx_22, f_23, h_24, (nle h_24), h_37, hx_38, c_51, (eq_true h_55), hx_100, c_107, h_111, c_121, (eq_true h_125), if_true, if_false, bqM_pnm, bqM_par, bqM_dnm, bqM_persons, bqM_dishes, bqM_law, bqM_dogs, TB_.w_pnm, TB_.w_par, TB_.w_dnm, TB_.w_persons, TB_.w_dishes, TB_.w_law, TB_.w_dogs, sqM_sl, sqM_so, SP_.w_sl, SP_.w_so, tqM_by_, tqM_wd, tqM_tk, tqM_pl, tqM_vl, tqM_len, tqM_n, tqM_at_, tqM_token, tqM_place, tqM_value, tqM_fault, tqM_fat, TP_.w_by_, TP_.w_wd, TP_.w_tk, TP_.w_pl, TP_.w_vl, TP_.w_len, TP_.w_n, TP_.w_at_, TP_.w_token, TP_.w_place, TP_.w_value, TP_.w_fault, TP_.w_fat])⟩ dX7_readOne_88
            · skip
              have n_127 : ¬ x_115 = 0 := h_125
              have r_128 := ne_lo (lo := 1) n_127 rx_115 rc_0 rfl (by decide)
              refine g_iconst C (v := 1) dX7_readOne_83 (by decide) ?_
              refine g_goto C (tgt := 88) dX7_readOne_84 (by decide) ?_
              exact g_zret (ty := .boolean) (r := 1) B K rfl (rfl) ⟨hUI_116, hF_119, hG_120, rg_w rc_1 (by decide) (by decide), (by (try simp only [hx_12, f_13, c_18, h_19, hx_22, f_23, h_24, (nle h_24), h_37, hx_38, c_51, (eq_true h_55), hx_100, h_111, c_121, h_125, if_true, if_false, bqM_pnm, bqM_par, bqM_dnm, bqM_persons, bqM_dishes, bqM_law, bqM_dogs, TB_.w_pnm, TB_.w_par, TB_.w_dnm, TB_.w_persons, TB_.w_dishes, TB_.w_law, TB_.w_dogs, sqM_sl, sqM_so, SP_.w_sl, SP_.w_so, tqM_by_, tqM_wd, tqM_tk, tqM_pl, tqM_vl, tqM_len, tqM_n, tqM_at_, tqM_token, tqM_place, tqM_value, tqM_fault, tqM_fat, TP_.w_by_, TP_.w_wd, TP_.w_tk, TP_.w_pl, TP_.w_vl, TP_.w_len, TP_.w_n, TP_.w_at_, TP_.w_token, TP_.w_place, TP_.w_value, TP_.w_fault, TP_.w_fat] at c_107); simp only [fOne_k4, fAnd2, fFailS, fCmp, ebqa1, hs_123, hs_4, etqa0, hs_122, hs_10, esqx, hs_124, hs_11, hx_12, f_13, c_18, h_19, hx_22, f_23, h_24, (nle h_24), h_37, hx_38, c_51, (eq_true h_55), hx_100, c_107, h_111, c_121, h_125, if_true, if_false, bqM_pnm, bqM_par, bqM_dnm, bqM_persons, bqM_dishes, bqM_law, bqM_dogs, TB_.w_pnm, TB_.w_par, TB_.w_dnm, TB_.w_persons, TB_.w_dishes, TB_.w_law, TB_.w_dogs, sqM_sl, sqM_so, SP_.w_sl, SP_.w_so, tqM_by_, tqM_wd, tqM_tk, tqM_pl, tqM_vl, tqM_len, tqM_n, tqM_at_, tqM_token, tqM_place, tqM_value, tqM_fault, tqM_fat, TP_.w_by_, TP_.w_wd, TP_.w_tk, TP_.w_pl, TP_.w_vl, TP_.w_len, TP_.w_n, TP_.w_at_, TP_.w_token, TP_.w_place, TP_.w_value, TP_.w_fault, TP_.w_fat])⟩ dX7_readOne_88
      · skip
        have r_129 := lt_r (lo := 9) (nle h_37) rc_8 ra2 (by decide)
        exact rg_no r_129 (by decide)
  · skip
    have r_130 := (⟨(rx_14).1, (eq_rg (h_19) rc_0).2⟩ : Rg 0 0 x_14)
    refine g_aload_n C 2 dX7_readOne_14 rfl rfl ?_
    refine g_iconst C (v := 1) dX7_readOne_15 (by decide) ?_
    refine g_callVI C K (c_X10_fail W9 hLa0 hka0 1 (rg_w rc_1 (by decide) (by decide)) hU) hLa0 hka0 (by decide) rfl v_7_73 rfl ⟨rfl, rfl⟩ ⟨Nat.le_of_ble_eq_true rfl, Nat.le_of_ble_eq_true rfl⟩ (Nat.le_of_ble_eq_true rfl) ⟨Nat.le_of_ble_eq_true rfl, Nat.le_of_ble_eq_true rfl⟩ dX7_readOne_16 rfl (st := []) (fun x_131 I_132 J_133 h_134 => ?_)
    obtain ⟨hUI_132, hFI_132, hGJ_133, rx_131, fx_131⟩ := h_134
    have hF_135 := fq_tr hF hFI_132 (by decide)
    have hG_136 := fq_tr hG hGJ_133 (by decide)
    obtain ⟨s_138, hs_138⟩ : ∃ z, TPq I_132 J_133 a0 b_5 b_6 b_7 b_8 b_9 = z := ⟨_, rfl⟩
    have c_137 : fFail (1) (s_10) = (x_131, s_138) := by have q := fx_131; simp only [etqa0, hs_10, hs_138] at q; exact q.symm
    have hs_139 : TBq I_132 J_133 a1 b_1 b_2 b_3 = s_4 := (bq_fq wbqa1 hFI_132 hGJ_133 (by decide) (by decide)).trans hs_4
    have hs_140 : SPq I_132 J_133 x = s_11 := (sq_fq wsqx hFI_132 hGJ_133 (by decide) (by decide)).trans hs_11
    exact g_zret (ty := .boolean) (r := x_131) B K rfl (nar_z (rg_w rx_131 (by decide) (by decide))) ⟨hUI_132, hF_135, hG_136, rg_w rx_131 (by decide) (by decide), (by simp only [fOne_k4, fAnd2, fFailS, fCmp, ebqa1, hs_139, hs_4, etqa0, hs_138, hs_10, esqx, hs_140, hs_11, hx_12, f_13, c_18, (eq_true h_19), c_137, if_true, if_false, bqM_pnm, bqM_par, bqM_dnm, bqM_persons, bqM_dishes, bqM_law, bqM_dogs, TB_.w_pnm, TB_.w_par, TB_.w_dnm, TB_.w_persons, TB_.w_dishes, TB_.w_law, TB_.w_dogs, sqM_sl, sqM_so, SP_.w_sl, SP_.w_so, tqM_by_, tqM_wd, tqM_tk, tqM_pl, tqM_vl, tqM_len, tqM_n, tqM_at_, tqM_token, tqM_place, tqM_value, tqM_fault, tqM_fat, TP_.w_by_, TP_.w_wd, TP_.w_tk, TP_.w_pl, TP_.w_vl, TP_.w_len, TP_.w_n, TP_.w_at_, TP_.w_token, TP_.w_place, TP_.w_value, TP_.w_fault, TP_.w_fat])⟩ dX7_readOne_19
set_option maxRecDepth 100000 in
set_option maxHeartbeats 8000000 in
theorem c_X7_readAll_5 {l : Launch} {D : va_G} {cy : Nat → ClassId} {L : List Nat} {κ ln : Nat → Nat} {R : Nat → Nat → Option Nat} {I : Nat → Nat → Int32} {J : Nat → Nat → Int64} {ow : Nat → Nat × Nat} (W9 : ∀ a ∈ L, Shp L κ ln R ow a) {x : Nat} (hLx : x ∈ L) (hkx : κ x = 7) {a0 : Nat} (hLa0 : a0 ∈ L) (hka0 : κ a0 = 10) {a1 : Nat} (hLa1 : a1 ∈ L) (hka1 : κ a1 = 8) (a2 : Int32) (ra2 : Rg 5 5 a2) (hU : Iv L κ R ow I) : CtI l yX7_readAll cX7_readAll 6 (some .boolean) { frames := 14, cells := 0, slots := 0, locals := 341 } D cy L κ ln R I J [.ref x, .ref a0, .ref a1, .int a2] (fun r I2 J2 => Iv L κ R ow I2 ∧ Fq L κ ow [704, 705, 1007, 1008, 1009, 1011, 1012, 52000, 52100, 52200] I I2 ∧ Fq L κ ow [1010] J J2 ∧ Rg 0 1 r ∧ ((r, TPf R I2 J2 a0, SPf R I2 J2 x) = fAll 4 (TBf R I J a1) (TPf R I J a0) (SPf R I J x))) := by
  refine CtI.of (by decide +kernel) (Nat.le_of_ble_eq_true rfl) ?_
  intro p e s m below meth c B K
  have C := B.1
  have hF : Fq L κ ow [704, 705, 1007, 1008, 1009, 1011, 1012, 52000, 52100, 52200] I I := fq_rf
  have hG : Fq L κ ow [1010] J J := fq_rf
  obtain ⟨b_1, hb_1, hb_1L, hb_1k, hb_1n, hb_1o⟩ := shp_a (W9 a1 hLa1) hka1 0 15 7 rfl (by decide)
  obtain ⟨b_2, hb_2, hb_2L, hb_2k, hb_2n, hb_2o⟩ := shp_a (W9 a1 hLa1) hka1 2 14 7 rfl (by decide)
  obtain ⟨b_3, hb_3, hb_3L, hb_3k, hb_3n, hb_3o⟩ := shp_a (W9 a1 hLa1) hka1 3 15 6 rfl (by decide)
  have ebqa1 : ∀ I J, TBf R I J a1 = TBq I J a1 b_1 b_2 b_3 := fun I J => by simp only [TBf, rr_, Option.getD_some, hb_1, hb_2, hb_3]
  have wbqa1 : bqw_ L κ ow a1 b_1 b_2 b_3 := ⟨⟨hLa1, hb_1L, hb_2L, hb_3L⟩, ⟨(ro_o hka1 (by decide)), (ro_a hb_1k (by decide) hb_1o hka1 rfl), (ro_a hb_2k (by decide) hb_2o hka1 rfl), (ro_a hb_3k (by decide) hb_3o hka1 rfl)⟩⟩
  obtain ⟨s_4, hs_4⟩ : ∃ z, TBq I J a1 b_1 b_2 b_3 = z := ⟨_, rfl⟩
  obtain ⟨b_5, hb_5, hb_5L, hb_5k, hb_5n, hb_5o⟩ := shp_a (W9 a0 hLa0) hka0 0 13 940 rfl (by decide)
  obtain ⟨b_6, hb_6, hb_6L, hb_6k, hb_6n, hb_6o⟩ := shp_a (W9 a0 hLa0) hka0 1 15 28 rfl (by decide)
  obtain ⟨b_7, hb_7, hb_7L, hb_7k, hb_7n, hb_7o⟩ := shp_a (W9 a0 hLa0) hka0 2 14 901 rfl (by decide)
  obtain ⟨b_8, hb_8, hb_8L, hb_8k, hb_8n, hb_8o⟩ := shp_a (W9 a0 hLa0) hka0 3 14 901 rfl (by decide)
  obtain ⟨b_9, hb_9, hb_9L, hb_9k, hb_9n, hb_9o⟩ := shp_a (W9 a0 hLa0) hka0 4 15 901 rfl (by decide)
  have etqa0 : ∀ I J, TPf R I J a0 = TPq I J a0 b_5 b_6 b_7 b_8 b_9 := fun I J => by simp only [TPf, rr_, Option.getD_some, hb_5, hb_6, hb_7, hb_8, hb_9]
  have wtqa0 : tqw_ L κ ow a0 b_5 b_6 b_7 b_8 b_9 := ⟨⟨hLa0, hb_5L, hb_6L, hb_7L, hb_8L, hb_9L⟩, ⟨(ro_o hka0 (by decide)), (ro_a hb_5k (by decide) hb_5o hka0 rfl), (ro_a hb_6k (by decide) hb_6o hka0 rfl), (ro_a hb_7k (by decide) hb_7o hka0 rfl), (ro_a hb_8k (by decide) hb_8o hka0 rfl), (ro_a hb_9k (by decide) hb_9o hka0 rfl)⟩⟩
  obtain ⟨s_10, hs_10⟩ : ∃ z, TPq I J a0 b_5 b_6 b_7 b_8 b_9 = z := ⟨_, rfl⟩
  have esqx : ∀ I J, SPf R I J x = SPq I J x := fun I J => by simp only [SPf, rr_, Option.getD_some]
  have wsqx : sqw_ L κ ow x := ⟨hLx, (ro_o hkx (by decide))⟩
  obtain ⟨s_11, hs_11⟩ : ∃ z, SPq I J x = z := ⟨_, rfl⟩
  refine g_lo (is := [0, 1, 2, 3]) (lo2 := [(0, .ref x), (1, .ref a0), (2, .ref a1), (3, .int a2)]) rfl ?_
  have l_12 : ∀ (n_12 : Nat) (I_12 : Nat → Nat → Int32) (J_13 : Nat → Nat → Int64) (hU_14 : Iv L κ R ow I_12) (hF_15 : Fq L κ ow [704, 705, 1007, 1008, 1009, 1011, 1012, 52000, 52100, 52200] I I_12) (hG_16 : Fq L κ ow [1010] J J_13) (v_17 : Int32) (rv_17 : Rg 0 1 v_17) (v_18 : Int32) (rv_18 : Rg 0 20 v_18) (hq_19 : fLp (fOne 4 (TBq I_12 J_13 a1 b_1 b_2 b_3)) 18 v_18 v_17 (TPq I_12 J_13 a0 b_5 b_6 b_7 b_8 b_9) (SPq I_12 J_13 x) = fAll 4 s_4 s_10 s_11) (hm_20 : 20 < (v_18 : Int32).toInt + (n_12 : Int)), WG p l e { frames := 14, cells := 0, slots := 0, locals := 341 } s m ([.ref x, .ref a0, .ref a1, .int a2] : List Value).toArray below meth c 6 0 0 (MQ below (Qi_ D cy L κ ln R (fun r I2 J2 => Iv L κ R ow I2 ∧ Fq L κ ow [704, 705, 1007, 1008, 1009, 1011, 1012, 52000, 52100, 52200] I I2 ∧ Fq L κ ow [1010] J J2 ∧ Rg 0 1 r ∧ ((r, TPf R I2 J2 a0, SPf R I2 J2 x) = fAll 4 (TBf R I J a1) (TPf R I J a0) (SPf R I J x)))) ([.ref x, .ref a0, .ref a1, .int a2] : List Value).toArray s 0 0 (Al_ L)) D cy (Al_ L) s.heap L κ ln R I_12 J_13 12 [(0, .ref x), (1, .ref a0), (2, .ref a1), (3, .int a2), (4, .int v_17), (5, .int v_18)] [] := by
    intro n_12
    induction n_12 with
    | zero =>
      intro I_12 J_13 hU_14 hF_15 hG_16 v_17 rv_17 v_18 rv_18 hq_19 hm_20
      exact ms_0 rv_18 hm_20
    | succ n_12 ih_12 =>
      intro I_12 J_13 hU_14 hF_15 hG_16 v_17 rv_17 v_18 rv_18 hq_19 hm_20
      obtain ⟨s_21, hs_21⟩ : ∃ z, TBq I_12 J_13 a1 b_1 b_2 b_3 = z := ⟨_, rfl⟩
      obtain ⟨s_22, hs_22⟩ : ∃ z, TPq I_12 J_13 a0 b_5 b_6 b_7 b_8 b_9 = z := ⟨_, rfl⟩
      obtain ⟨s_23, hs_23⟩ : ∃ z, SPq I_12 J_13 x = z := ⟨_, rfl⟩
      simp only [hs_21, hs_22, hs_23] at hq_19
      have hQ_24 := hq_19.symm
      have u_25 := fLp_eq (rd := fOne 4 s_21) (k := 18) (i := v_18) (r := v_17) (t := s_22) (s := s_23) (rv_18)
      refine g_iload C 5 dX7_readAll_12 rfl ?_
      refine g_bipush C (v := 20) dX7_readAll_14 (by decide) ?_
      refine g_icmp_ge C (tgt := 71) dX7_readAll_16 (by decide) (fun h_26 => ?_) (fun h_26 => ?_)
      · skip
        have r_27 := le_r (h_26) rc_20 rv_18
        refine g_iload C 4 dX7_readAll_71 rfl ?_
        exact g_zret (ty := .boolean) (r := v_17) B K rfl (nar_z (rv_17)) ⟨hU_14, hF_15, hG_16, rv_17, (by (try simp only [h_26, if_true, if_false, bqM_pnm, bqM_par, bqM_dnm, bqM_persons, bqM_dishes, bqM_law, bqM_dogs, TB_.w_pnm, TB_.w_par, TB_.w_dnm, TB_.w_persons, TB_.w_dishes, TB_.w_law, TB_.w_dogs, sqM_sl, sqM_so, SP_.w_sl, SP_.w_so, tqM_by_, tqM_wd, tqM_tk, tqM_pl, tqM_vl, tqM_len, tqM_n, tqM_at_, tqM_token, tqM_place, tqM_value, tqM_fault, tqM_fat, TP_.w_by_, TP_.w_wd, TP_.w_tk, TP_.w_pl, TP_.w_vl, TP_.w_len, TP_.w_n, TP_.w_at_, TP_.w_token, TP_.w_place, TP_.w_value, TP_.w_fault, TP_.w_fat] at hQ_24); (try simp only [h_26, if_true, if_false, bqM_pnm, bqM_par, bqM_dnm, bqM_persons, bqM_dishes, bqM_law, bqM_dogs, TB_.w_pnm, TB_.w_par, TB_.w_dnm, TB_.w_persons, TB_.w_dishes, TB_.w_law, TB_.w_dogs, sqM_sl, sqM_so, SP_.w_sl, SP_.w_so, tqM_by_, tqM_wd, tqM_tk, tqM_pl, tqM_vl, tqM_len, tqM_n, tqM_at_, tqM_token, tqM_place, tqM_value, tqM_fault, tqM_fat, TP_.w_by_, TP_.w_wd, TP_.w_tk, TP_.w_pl, TP_.w_vl, TP_.w_len, TP_.w_n, TP_.w_at_, TP_.w_token, TP_.w_place, TP_.w_value, TP_.w_fault, TP_.w_fat] at u_25); simp only [ebqa1, hs_21, hs_4, etqa0, hs_22, hs_10, esqx, hs_23, hs_11, hQ_24, u_25, h_26, if_true, if_false, bqM_pnm, bqM_par, bqM_dnm, bqM_persons, bqM_dishes, bqM_law, bqM_dogs, TB_.w_pnm, TB_.w_par, TB_.w_dnm, TB_.w_persons, TB_.w_dishes, TB_.w_law, TB_.w_dogs, sqM_sl, sqM_so, SP_.w_sl, SP_.w_so, tqM_by_, tqM_wd, tqM_tk, tqM_pl, tqM_vl, tqM_len, tqM_n, tqM_at_, tqM_token, tqM_place, tqM_value, tqM_fault, tqM_fat, TP_.w_by_, TP_.w_wd, TP_.w_tk, TP_.w_pl, TP_.w_vl, TP_.w_len, TP_.w_n, TP_.w_at_, TP_.w_token, TP_.w_place, TP_.w_value, TP_.w_fault, TP_.w_fat])⟩ dX7_readAll_73
      · skip
        have r_28 := lt_l (hi := 19) (nle h_26) rv_18 rc_20 (by decide)
        refine g_iload C 4 dX7_readAll_19 rfl ?_
        refine g_if_eq C (tgt := 71) dX7_readAll_21 (by decide) (fun h_29 => ?_) (fun h_29 => ?_)
        · skip
          have r_30 := (⟨(rv_17).1, (eq_rg (h_29) rc_0).2⟩ : Rg 0 0 v_17)
          refine g_iload C 4 dX7_readAll_71 rfl ?_
          exact g_zret (ty := .boolean) (r := v_17) B K rfl (nar_z (rg_w r_30 (by decide) (by decide))) ⟨hU_14, hF_15, hG_16, rg_w r_30 (by decide) (by decide), (by (try simp only [h_26, (nle h_26), (eq_true h_29), if_true, if_false, bqM_pnm, bqM_par, bqM_dnm, bqM_persons, bqM_dishes, bqM_law, bqM_dogs, TB_.w_pnm, TB_.w_par, TB_.w_dnm, TB_.w_persons, TB_.w_dishes, TB_.w_law, TB_.w_dogs, sqM_sl, sqM_so, SP_.w_sl, SP_.w_so, tqM_by_, tqM_wd, tqM_tk, tqM_pl, tqM_vl, tqM_len, tqM_n, tqM_at_, tqM_token, tqM_place, tqM_value, tqM_fault, tqM_fat, TP_.w_by_, TP_.w_wd, TP_.w_tk, TP_.w_pl, TP_.w_vl, TP_.w_len, TP_.w_n, TP_.w_at_, TP_.w_token, TP_.w_place, TP_.w_value, TP_.w_fault, TP_.w_fat] at hQ_24); (try simp only [h_26, (nle h_26), (eq_true h_29), if_true, if_false, bqM_pnm, bqM_par, bqM_dnm, bqM_persons, bqM_dishes, bqM_law, bqM_dogs, TB_.w_pnm, TB_.w_par, TB_.w_dnm, TB_.w_persons, TB_.w_dishes, TB_.w_law, TB_.w_dogs, sqM_sl, sqM_so, SP_.w_sl, SP_.w_so, tqM_by_, tqM_wd, tqM_tk, tqM_pl, tqM_vl, tqM_len, tqM_n, tqM_at_, tqM_token, tqM_place, tqM_value, tqM_fault, tqM_fat, TP_.w_by_, TP_.w_wd, TP_.w_tk, TP_.w_pl, TP_.w_vl, TP_.w_len, TP_.w_n, TP_.w_at_, TP_.w_token, TP_.w_place, TP_.w_value, TP_.w_fault, TP_.w_fat] at u_25); simp only [ebqa1, hs_21, hs_4, etqa0, hs_22, hs_10, esqx, hs_23, hs_11, hQ_24, u_25, h_26, (nle h_26), (eq_true h_29), if_true, if_false, bqM_pnm, bqM_par, bqM_dnm, bqM_persons, bqM_dishes, bqM_law, bqM_dogs, TB_.w_pnm, TB_.w_par, TB_.w_dnm, TB_.w_persons, TB_.w_dishes, TB_.w_law, TB_.w_dogs, sqM_sl, sqM_so, SP_.w_sl, SP_.w_so, tqM_by_, tqM_wd, tqM_tk, tqM_pl, tqM_vl, tqM_len, tqM_n, tqM_at_, tqM_token, tqM_place, tqM_value, tqM_fault, tqM_fat, TP_.w_by_, TP_.w_wd, TP_.w_tk, TP_.w_pl, TP_.w_vl, TP_.w_len, TP_.w_n, TP_.w_at_, TP_.w_token, TP_.w_place, TP_.w_value, TP_.w_fault, TP_.w_fat])⟩ dX7_readAll_73
        · skip
          have n_31 : ¬ v_17 = 0 := h_29
          have r_32 := ne_lo (lo := 1) n_31 rv_17 rc_0 rfl (by decide)
          refine g_aload_n C 1 dX7_readAll_24 rfl rfl ?_
          obtain ⟨x_33, hx_33, rx_33⟩ := ex_get (I := I_12) (a := a0) (j := 8) (lo := (-2147483648)) (hi := 2147483647) hU_14.1 hLa0 (ro_o hka0 (by decide)) rfl
          have f_34 : s_22.token = x_33 := (congrArg TP_.token hs_22).symm.trans hx_33
          refine g_getI C K hLa0 hka0 f_7_57 (v := x_33) hx_33 dX7_readAll_25 ?_
          refine g_bipush C (v := 18) dX7_readAll_28 (by decide) ?_
          refine g_icmp_ne C (tgt := 71) dX7_readAll_30 (by decide) (fun h_35 => ?_) (fun h_35 => ?_)
          · skip
            have n_36 : ¬ x_33 = 18 := h_35
            refine g_iload C 4 dX7_readAll_71 rfl ?_
            exact g_zret (ty := .boolean) (r := v_17) B K rfl (nar_z (rg_w r_32 (by decide) (by decide))) ⟨hU_14, hF_15, hG_16, rg_w r_32 (by decide) (by decide), (by (try simp only [h_26, (nle h_26), h_29, hx_33, f_34, h_35, if_true, if_false, bqM_pnm, bqM_par, bqM_dnm, bqM_persons, bqM_dishes, bqM_law, bqM_dogs, TB_.w_pnm, TB_.w_par, TB_.w_dnm, TB_.w_persons, TB_.w_dishes, TB_.w_law, TB_.w_dogs, sqM_sl, sqM_so, SP_.w_sl, SP_.w_so, tqM_by_, tqM_wd, tqM_tk, tqM_pl, tqM_vl, tqM_len, tqM_n, tqM_at_, tqM_token, tqM_place, tqM_value, tqM_fault, tqM_fat, TP_.w_by_, TP_.w_wd, TP_.w_tk, TP_.w_pl, TP_.w_vl, TP_.w_len, TP_.w_n, TP_.w_at_, TP_.w_token, TP_.w_place, TP_.w_value, TP_.w_fault, TP_.w_fat] at hQ_24); (try simp only [h_26, (nle h_26), h_29, hx_33, f_34, h_35, if_true, if_false, bqM_pnm, bqM_par, bqM_dnm, bqM_persons, bqM_dishes, bqM_law, bqM_dogs, TB_.w_pnm, TB_.w_par, TB_.w_dnm, TB_.w_persons, TB_.w_dishes, TB_.w_law, TB_.w_dogs, sqM_sl, sqM_so, SP_.w_sl, SP_.w_so, tqM_by_, tqM_wd, tqM_tk, tqM_pl, tqM_vl, tqM_len, tqM_n, tqM_at_, tqM_token, tqM_place, tqM_value, tqM_fault, tqM_fat, TP_.w_by_, TP_.w_wd, TP_.w_tk, TP_.w_pl, TP_.w_vl, TP_.w_len, TP_.w_n, TP_.w_at_, TP_.w_token, TP_.w_place, TP_.w_value, TP_.w_fault, TP_.w_fat] at u_25); simp only [ebqa1, hs_21, hs_4, etqa0, hs_22, hs_10, esqx, hs_23, hs_11, hQ_24, u_25, h_26, (nle h_26), h_29, hx_33, f_34, h_35, if_true, if_false, bqM_pnm, bqM_par, bqM_dnm, bqM_persons, bqM_dishes, bqM_law, bqM_dogs, TB_.w_pnm, TB_.w_par, TB_.w_dnm, TB_.w_persons, TB_.w_dishes, TB_.w_law, TB_.w_dogs, sqM_sl, sqM_so, SP_.w_sl, SP_.w_so, tqM_by_, tqM_wd, tqM_tk, tqM_pl, tqM_vl, tqM_len, tqM_n, tqM_at_, tqM_token, tqM_place, tqM_value, tqM_fault, tqM_fat, TP_.w_by_, TP_.w_wd, TP_.w_tk, TP_.w_pl, TP_.w_vl, TP_.w_len, TP_.w_n, TP_.w_at_, TP_.w_token, TP_.w_place, TP_.w_value, TP_.w_fault, TP_.w_fat])⟩ dX7_readAll_73
          · skip
            have r_37 := (⟨(eq_rg (h_35) rc_18).1, (eq_rg (h_35) rc_18).2⟩ : Rg 18 18 x_33)
            refine g_aload_n C 1 dX7_readAll_33 rfl rfl ?_
            refine g_callVV C K (c_X10_advance W9 hLa0 hka0   hU_14) hLa0 hka0 (by decide) rfl v_7_60 rfl ⟨rfl, rfl⟩ ⟨Nat.le_of_ble_eq_true rfl, Nat.le_of_ble_eq_true rfl⟩ (Nat.le_of_ble_eq_true rfl) ⟨Nat.le_of_ble_eq_true rfl, Nat.le_of_ble_eq_true rfl⟩ dX7_readAll_34 rfl (st := []) (fun I_39 J_40 h_41 => ?_)
            obtain ⟨hUI_39, hFI_39, hGJ_40, fx_38⟩ := h_41
            have hF_42 := fq_tr hF_15 hFI_39 (by decide)
            have hG_43 := fq_tr hG_16 hGJ_40 (by decide)
            obtain ⟨s_45, hs_45⟩ : ∃ z, TPq I_39 J_40 a0 b_5 b_6 b_7 b_8 b_9 = z := ⟨_, rfl⟩
            have c_44 : fAdvance (s_22) = s_45 := by have q := fx_38; simp only [etqa0, hs_22, hs_45] at q; exact q.symm
            have hs_46 : TBq I_39 J_40 a1 b_1 b_2 b_3 = s_21 := (bq_fq wbqa1 hFI_39 hGJ_40 (by decide) (by decide)).trans hs_21
            have hs_47 : SPq I_39 J_40 x = s_23 := (sq_fq wsqx hFI_39 hGJ_40 (by decide) (by decide)).trans hs_23
            refine g_aload_n C 0 dX7_readAll_37 rfl rfl ?_
            refine g_aload_n C 1 dX7_readAll_38 rfl rfl ?_
            refine g_aload_n C 2 dX7_readAll_39 rfl rfl ?_
            refine g_iload_n C 3 dX7_readAll_40 rfl rfl ?_
            refine g_callVI C K (c_X7_readOne_5 W9 hLx hkx hLa0 hka0 hLa1 hka1 a2 (ra2) hUI_39) hLx hkx (by decide) rfl v_7_67 rfl ⟨rfl, rfl⟩ ⟨Nat.le_of_ble_eq_true rfl, Nat.le_of_ble_eq_true rfl⟩ (Nat.le_of_ble_eq_true rfl) ⟨Nat.le_of_ble_eq_true rfl, Nat.le_of_ble_eq_true rfl⟩ dX7_readAll_41 rfl (st := []) (fun x_48 I_49 J_50 h_51 => ?_)
            obtain ⟨hUI_49, hFI_49, hGJ_50, rx_48, fx_48⟩ := h_51
            have hF_52 := fq_tr hF_42 hFI_49 (by decide)
            have hG_53 := fq_tr hG_43 hGJ_50 (by decide)
            obtain ⟨s_55, hs_55⟩ : ∃ z, TPq I_49 J_50 a0 b_5 b_6 b_7 b_8 b_9 = z := ⟨_, rfl⟩
            obtain ⟨s_56, hs_56⟩ : ∃ z, SPq I_49 J_50 x = z := ⟨_, rfl⟩
            have c_54 : fOne 4 (s_21) (s_45) (s_23) = (x_48, s_55, s_56) := by have q := fx_48; simp only [ebqa1, etqa0, esqx, hs_46, hs_45, hs_47, hs_55, hs_56] at q; exact q.symm
            have hs_57 : TBq I_49 J_50 a1 b_1 b_2 b_3 = s_21 := (bq_fq wbqa1 hFI_49 hGJ_50 (by decide) (by decide)).trans hs_46
            refine g_if_eq C (tgt := 62) dX7_readAll_44 (by decide) (fun h_58 => ?_) (fun h_58 => ?_)
            · skip
              have r_59 := (⟨(rx_48).1, (eq_rg (h_58) rc_0).2⟩ : Rg 0 0 x_48)
              refine g_iconst C (v := 0) dX7_readAll_62 (by decide) ?_
              refine g_istore C dX7_readAll_63 (by decide) (lo2 := [(4, .int 0), (0, .ref x), (1, .ref a0), (2, .ref a1), (3, .int a2), (5, .int v_18)]) rfl ?_
              obtain ⟨x_60, hx_60, rx_60, tx_60⟩ := ex_add (y := 1) 1 20 r_28 rc_1 (by decide) (by decide) (by decide) (by decide)
              refine g_iinc C dX7_readAll_65 (k := 5) (v := x_60) rfl hx_60 (by decide) (lo2 := [(5, .int x_60), (4, .int 0), (0, .ref x), (1, .ref a0), (2, .ref a1), (3, .int a2)]) rfl ?_
              refine g_goto C (tgt := 12) dX7_readAll_68 (by decide) ?_
              refine g_lo (is := [2, 3, 4, 5, 1, 0]) (lo2 := [(0, .ref x), (1, .ref a0), (2, .ref a1), (3, .int a2), (4, .int 0), (5, .int x_60)]) rfl ?_
              exact ih_12 I_49 J_50 hUI_49 hF_52 hG_53 0 (rg_w rc_0 (by decide) (by decide)) x_60 (rg_w rx_60 (by decide) (by decide)) (by (try simp only [h_26, (nle h_26), h_29, hx_33, f_34, (eq_true h_35), c_44, c_54, (eq_true h_58), hx_60, if_true, if_false, bqM_pnm, bqM_par, bqM_dnm, bqM_persons, bqM_dishes, bqM_law, bqM_dogs, TB_.w_pnm, TB_.w_par, TB_.w_dnm, TB_.w_persons, TB_.w_dishes, TB_.w_law, TB_.w_dogs, sqM_sl, sqM_so, SP_.w_sl, SP_.w_so, tqM_by_, tqM_wd, tqM_tk, tqM_pl, tqM_vl, tqM_len, tqM_n, tqM_at_, tqM_token, tqM_place, tqM_value, tqM_fault, tqM_fat, TP_.w_by_, TP_.w_wd, TP_.w_tk, TP_.w_pl, TP_.w_vl, TP_.w_len, TP_.w_n, TP_.w_at_, TP_.w_token, TP_.w_place, TP_.w_value, TP_.w_fault, TP_.w_fat] at hQ_24); (try simp only [h_26, (nle h_26), h_29, hx_33, f_34, (eq_true h_35), c_44, c_54, (eq_true h_58), hx_60, if_true, if_false, bqM_pnm, bqM_par, bqM_dnm, bqM_persons, bqM_dishes, bqM_law, bqM_dogs, TB_.w_pnm, TB_.w_par, TB_.w_dnm, TB_.w_persons, TB_.w_dishes, TB_.w_law, TB_.w_dogs, sqM_sl, sqM_so, SP_.w_sl, SP_.w_so, tqM_by_, tqM_wd, tqM_tk, tqM_pl, tqM_vl, tqM_len, tqM_n, tqM_at_, tqM_token, tqM_place, tqM_value, tqM_fault, tqM_fat, TP_.w_by_, TP_.w_wd, TP_.w_tk, TP_.w_pl, TP_.w_vl, TP_.w_len, TP_.w_n, TP_.w_at_, TP_.w_token, TP_.w_place, TP_.w_value, TP_.w_fault, TP_.w_fat] at u_25); simp only [ebqa1, hs_57, hs_4, etqa0, hs_55, hs_10, esqx, hs_56, hs_11, hQ_24, u_25, h_26, (nle h_26), h_29, hx_33, f_34, (eq_true h_35), c_44, c_54, (eq_true h_58), hx_60, if_true, if_false, bqM_pnm, bqM_par, bqM_dnm, bqM_persons, bqM_dishes, bqM_law, bqM_dogs, TB_.w_pnm, TB_.w_par, TB_.w_dnm, TB_.w_persons, TB_.w_dishes, TB_.w_law, TB_.w_dogs, sqM_sl, sqM_so, SP_.w_sl, SP_.w_so, tqM_by_, tqM_wd, tqM_tk, tqM_pl, tqM_vl, tqM_len, tqM_n, tqM_at_, tqM_token, tqM_place, tqM_value, tqM_fault, tqM_fat, TP_.w_by_, TP_.w_wd, TP_.w_tk, TP_.w_pl, TP_.w_vl, TP_.w_len, TP_.w_n, TP_.w_at_, TP_.w_token, TP_.w_place, TP_.w_value, TP_.w_fault, TP_.w_fat]) (ms_1 hm_20 (ti_k tx_60 rc_1) (by decide))
            · skip
              have n_61 : ¬ x_48 = 0 := h_58
              have r_62 := ne_lo (lo := 1) n_61 rx_48 rc_0 rfl (by decide)
              refine g_aload_n C 0 dX7_readAll_47 rfl rfl ?_
              refine g_bipush C (v := 18) dX7_readAll_48 (by decide) ?_
              refine g_iconst C (v := 0) dX7_readAll_50 (by decide) ?_
              refine g_iconst C (v := 0) dX7_readAll_51 (by decide) ?_
              refine g_callVI C K (c_X7_addStep W9 hLx hkx 18 0 0 (rg_w rc_0 (by decide) (by decide)) hUI_49  (fun q => absurd q (by decide))) hLx hkx (by decide) rfl v_7_63 rfl ⟨rfl, rfl⟩ ⟨Nat.le_of_ble_eq_true rfl, Nat.le_of_ble_eq_true rfl⟩ (Nat.le_of_ble_eq_true rfl) ⟨Nat.le_of_ble_eq_true rfl, Nat.le_of_ble_eq_true rfl⟩ dX7_readAll_52 rfl (st := []) (fun x_63 I_64 J_65 h_66 => ?_)
              obtain ⟨hUI_64, hFI_64, hGJ_65, rx_63, fx_63⟩ := h_66
              have hF_67 := fq_tr hF_52 hFI_64 (by decide)
              have hG_68 := fq_tr hG_53 hGJ_65 (by decide)
              obtain ⟨s_70, hs_70⟩ : ∃ z, SPq I_64 J_65 x = z := ⟨_, rfl⟩
              have c_69 : fAddStep (s_56) = (x_63, s_70) := by have q := fx_63; simp only [esqx, hs_56, hs_70] at q; exact q.symm
              have hs_71 : TBq I_64 J_65 a1 b_1 b_2 b_3 = s_21 := (bq_fq wbqa1 hFI_64 hGJ_65 (by decide) (by decide)).trans hs_57
              have hs_72 : TPq I_64 J_65 a0 b_5 b_6 b_7 b_8 b_9 = s_55 := (tq_fq wtqa0 hFI_64 hGJ_65 (by decide) (by decide)).trans hs_55
              refine g_if_eq C (tgt := 62) dX7_readAll_55 (by decide) (fun h_73 => ?_) (fun h_73 => ?_)
              · skip
                have r_74 := (⟨(rx_63).1, (eq_rg (h_73) rc_0).2⟩ : Rg 0 0 x_63)
                refine g_iconst C (v := 0) dX7_readAll_62 (by decide) ?_
                refine g_istore C dX7_readAll_63 (by decide) (lo2 := [(4, .int 0), (0, .ref x), (1, .ref a0), (2, .ref a1), (3, .int a2), (5, .int v_18)]) rfl ?_
                obtain ⟨x_75, hx_75, rx_75, tx_75⟩ := ex_add (y := 1) 1 20 r_28 rc_1 (by decide) (by decide) (by decide) (by decide)
                refine g_iinc C dX7_readAll_65 (k := 5) (v := x_75) rfl hx_75 (by decide) (lo2 := [(5, .int x_75), (4, .int 0), (0, .ref x), (1, .ref a0), (2, .ref a1), (3, .int a2)]) rfl ?_
                refine g_goto C (tgt := 12) dX7_readAll_68 (by decide) ?_
                refine g_lo (is := [2, 3, 4, 5, 1, 0]) (lo2 := [(0, .ref x), (1, .ref a0), (2, .ref a1), (3, .int a2), (4, .int 0), (5, .int x_75)]) rfl ?_
                exact ih_12 I_64 J_65 hUI_64 hF_67 hG_68 0 (rg_w rc_0 (by decide) (by decide)) x_75 (rg_w rx_75 (by decide) (by decide)) (by (try simp only [h_26, (nle h_26), h_29, hx_33, f_34, (eq_true h_35), c_44, c_54, h_58, c_69, (eq_true h_73), hx_75, if_true, if_false, bqM_pnm, bqM_par, bqM_dnm, bqM_persons, bqM_dishes, bqM_law, bqM_dogs, TB_.w_pnm, TB_.w_par, TB_.w_dnm, TB_.w_persons, TB_.w_dishes, TB_.w_law, TB_.w_dogs, sqM_sl, sqM_so, SP_.w_sl, SP_.w_so, tqM_by_, tqM_wd, tqM_tk, tqM_pl, tqM_vl, tqM_len, tqM_n, tqM_at_, tqM_token, tqM_place, tqM_value, tqM_fault, tqM_fat, TP_.w_by_, TP_.w_wd, TP_.w_tk, TP_.w_pl, TP_.w_vl, TP_.w_len, TP_.w_n, TP_.w_at_, TP_.w_token, TP_.w_place, TP_.w_value, TP_.w_fault, TP_.w_fat] at hQ_24); (try simp only [h_26, (nle h_26), h_29, hx_33, f_34, (eq_true h_35), c_44, c_54, h_58, c_69, (eq_true h_73), hx_75, if_true, if_false, bqM_pnm, bqM_par, bqM_dnm, bqM_persons, bqM_dishes, bqM_law, bqM_dogs, TB_.w_pnm, TB_.w_par, TB_.w_dnm, TB_.w_persons, TB_.w_dishes, TB_.w_law, TB_.w_dogs, sqM_sl, sqM_so, SP_.w_sl, SP_.w_so, tqM_by_, tqM_wd, tqM_tk, tqM_pl, tqM_vl, tqM_len, tqM_n, tqM_at_, tqM_token, tqM_place, tqM_value, tqM_fault, tqM_fat, TP_.w_by_, TP_.w_wd, TP_.w_tk, TP_.w_pl, TP_.w_vl, TP_.w_len, TP_.w_n, TP_.w_at_, TP_.w_token, TP_.w_place, TP_.w_value, TP_.w_fault, TP_.w_fat] at u_25); simp only [ebqa1, hs_71, hs_4, etqa0, hs_72, hs_10, esqx, hs_70, hs_11, hQ_24, u_25, h_26, (nle h_26), h_29, hx_33, f_34, (eq_true h_35), c_44, c_54, h_58, c_69, (eq_true h_73), hx_75, if_true, if_false, bqM_pnm, bqM_par, bqM_dnm, bqM_persons, bqM_dishes, bqM_law, bqM_dogs, TB_.w_pnm, TB_.w_par, TB_.w_dnm, TB_.w_persons, TB_.w_dishes, TB_.w_law, TB_.w_dogs, sqM_sl, sqM_so, SP_.w_sl, SP_.w_so, tqM_by_, tqM_wd, tqM_tk, tqM_pl, tqM_vl, tqM_len, tqM_n, tqM_at_, tqM_token, tqM_place, tqM_value, tqM_fault, tqM_fat, TP_.w_by_, TP_.w_wd, TP_.w_tk, TP_.w_pl, TP_.w_vl, TP_.w_len, TP_.w_n, TP_.w_at_, TP_.w_token, TP_.w_place, TP_.w_value, TP_.w_fault, TP_.w_fat]) (ms_1 hm_20 (ti_k tx_75 rc_1) (by decide))
              · skip
                have n_76 : ¬ x_63 = 0 := h_73
                have r_77 := ne_lo (lo := 1) n_76 rx_63 rc_0 rfl (by decide)
                refine g_iconst C (v := 1) dX7_readAll_58 (by decide) ?_
                refine g_goto C (tgt := 63) dX7_readAll_59 (by decide) ?_
                refine g_istore C dX7_readAll_63 (by decide) (lo2 := [(4, .int 1), (0, .ref x), (1, .ref a0), (2, .ref a1), (3, .int a2), (5, .int v_18)]) rfl ?_
                obtain ⟨x_78, hx_78, rx_78, tx_78⟩ := ex_add (y := 1) 1 20 r_28 rc_1 (by decide) (by decide) (by decide) (by decide)
                refine g_iinc C dX7_readAll_65 (k := 5) (v := x_78) rfl hx_78 (by decide) (lo2 := [(5, .int x_78), (4, .int 1), (0, .ref x), (1, .ref a0), (2, .ref a1), (3, .int a2)]) rfl ?_
                refine g_goto C (tgt := 12) dX7_readAll_68 (by decide) ?_
                refine g_lo (is := [2, 3, 4, 5, 1, 0]) (lo2 := [(0, .ref x), (1, .ref a0), (2, .ref a1), (3, .int a2), (4, .int 1), (5, .int x_78)]) rfl ?_
                exact ih_12 I_64 J_65 hUI_64 hF_67 hG_68 1 (rg_w rc_1 (by decide) (by decide)) x_78 (rg_w rx_78 (by decide) (by decide)) (by (try simp only [h_26, (nle h_26), h_29, hx_33, f_34, (eq_true h_35), c_44, c_54, h_58, c_69, h_73, hx_78, if_true, if_false, bqM_pnm, bqM_par, bqM_dnm, bqM_persons, bqM_dishes, bqM_law, bqM_dogs, TB_.w_pnm, TB_.w_par, TB_.w_dnm, TB_.w_persons, TB_.w_dishes, TB_.w_law, TB_.w_dogs, sqM_sl, sqM_so, SP_.w_sl, SP_.w_so, tqM_by_, tqM_wd, tqM_tk, tqM_pl, tqM_vl, tqM_len, tqM_n, tqM_at_, tqM_token, tqM_place, tqM_value, tqM_fault, tqM_fat, TP_.w_by_, TP_.w_wd, TP_.w_tk, TP_.w_pl, TP_.w_vl, TP_.w_len, TP_.w_n, TP_.w_at_, TP_.w_token, TP_.w_place, TP_.w_value, TP_.w_fault, TP_.w_fat] at hQ_24); (try simp only [h_26, (nle h_26), h_29, hx_33, f_34, (eq_true h_35), c_44, c_54, h_58, c_69, h_73, hx_78, if_true, if_false, bqM_pnm, bqM_par, bqM_dnm, bqM_persons, bqM_dishes, bqM_law, bqM_dogs, TB_.w_pnm, TB_.w_par, TB_.w_dnm, TB_.w_persons, TB_.w_dishes, TB_.w_law, TB_.w_dogs, sqM_sl, sqM_so, SP_.w_sl, SP_.w_so, tqM_by_, tqM_wd, tqM_tk, tqM_pl, tqM_vl, tqM_len, tqM_n, tqM_at_, tqM_token, tqM_place, tqM_value, tqM_fault, tqM_fat, TP_.w_by_, TP_.w_wd, TP_.w_tk, TP_.w_pl, TP_.w_vl, TP_.w_len, TP_.w_n, TP_.w_at_, TP_.w_token, TP_.w_place, TP_.w_value, TP_.w_fault, TP_.w_fat] at u_25); simp only [ebqa1, hs_71, hs_4, etqa0, hs_72, hs_10, esqx, hs_70, hs_11, hQ_24, u_25, h_26, (nle h_26), h_29, hx_33, f_34, (eq_true h_35), c_44, c_54, h_58, c_69, h_73, hx_78, if_true, if_false, bqM_pnm, bqM_par, bqM_dnm, bqM_persons, bqM_dishes, bqM_law, bqM_dogs, TB_.w_pnm, TB_.w_par, TB_.w_dnm, TB_.w_persons, TB_.w_dishes, TB_.w_law, TB_.w_dogs, sqM_sl, sqM_so, SP_.w_sl, SP_.w_so, tqM_by_, tqM_wd, tqM_tk, tqM_pl, tqM_vl, tqM_len, tqM_n, tqM_at_, tqM_token, tqM_place, tqM_value, tqM_fault, tqM_fat, TP_.w_by_, TP_.w_wd, TP_.w_tk, TP_.w_pl, TP_.w_vl, TP_.w_len, TP_.w_n, TP_.w_at_, TP_.w_token, TP_.w_place, TP_.w_value, TP_.w_fault, TP_.w_fat]) (ms_1 hm_20 (ti_k tx_78 rc_1) (by decide))
  refine g_aload_n C 0 dX7_readAll_0 rfl rfl ?_
  refine g_aload_n C 1 dX7_readAll_1 rfl rfl ?_
  refine g_aload_n C 2 dX7_readAll_2 rfl rfl ?_
  refine g_iload_n C 3 dX7_readAll_3 rfl rfl ?_
  refine g_callVI C K (c_X7_readOne_5 W9 hLx hkx hLa0 hka0 hLa1 hka1 a2 (ra2) hU) hLx hkx (by decide) rfl v_7_67 rfl ⟨rfl, rfl⟩ ⟨Nat.le_of_ble_eq_true rfl, Nat.le_of_ble_eq_true rfl⟩ (Nat.le_of_ble_eq_true rfl) ⟨Nat.le_of_ble_eq_true rfl, Nat.le_of_ble_eq_true rfl⟩ dX7_readAll_4 rfl (st := []) (fun x_79 I_80 J_81 h_82 => ?_)
  obtain ⟨hUI_80, hFI_80, hGJ_81, rx_79, fx_79⟩ := h_82
  have hF_83 := fq_tr hF hFI_80 (by decide)
  have hG_84 := fq_tr hG hGJ_81 (by decide)
  obtain ⟨s_86, hs_86⟩ : ∃ z, TPq I_80 J_81 a0 b_5 b_6 b_7 b_8 b_9 = z := ⟨_, rfl⟩
  obtain ⟨s_87, hs_87⟩ : ∃ z, SPq I_80 J_81 x = z := ⟨_, rfl⟩
  have c_85 : fOne 4 (s_4) (s_10) (s_11) = (x_79, s_86, s_87) := by have q := fx_79; simp only [ebqa1, etqa0, esqx, hs_4, hs_10, hs_11, hs_86, hs_87] at q; exact q.symm
  have hs_88 : TBq I_80 J_81 a1 b_1 b_2 b_3 = s_4 := (bq_fq wbqa1 hFI_80 hGJ_81 (by decide) (by decide)).trans hs_4
  refine g_istore C dX7_readAll_7 (by decide) (lo2 := [(4, .int x_79), (0, .ref x), (1, .ref a0), (2, .ref a1), (3, .int a2)]) rfl ?_
  refine g_iconst C (v := 0) dX7_readAll_9 (by decide) ?_
  refine g_istore C dX7_readAll_10 (by decide) (lo2 := [(5, .int 0), (4, .int x_79), (0, .ref x), (1, .ref a0), (2, .ref a1), (3, .int a2)]) rfl ?_
  refine g_lo (is := [2, 3, 4, 5, 1, 0]) (lo2 := [(0, .ref x), (1, .ref a0), (2, .ref a1), (3, .int a2), (4, .int x_79), (5, .int 0)]) rfl ?_
  exact l_12 21 I_80 J_81 hUI_80 hF_83 hG_84 x_79 (rx_79) 0 (rg_w rc_0 (by decide) (by decide)) (by simp only [fAll, ebqa1, hs_88, hs_4, etqa0, hs_86, hs_10, esqx, hs_87, hs_11, c_85, if_true, if_false, bqM_pnm, bqM_par, bqM_dnm, bqM_persons, bqM_dishes, bqM_law, bqM_dogs, TB_.w_pnm, TB_.w_par, TB_.w_dnm, TB_.w_persons, TB_.w_dishes, TB_.w_law, TB_.w_dogs, sqM_sl, sqM_so, SP_.w_sl, SP_.w_so, tqM_by_, tqM_wd, tqM_tk, tqM_pl, tqM_vl, tqM_len, tqM_n, tqM_at_, tqM_token, tqM_place, tqM_value, tqM_fault, tqM_fat, TP_.w_by_, TP_.w_wd, TP_.w_tk, TP_.w_pl, TP_.w_vl, TP_.w_len, TP_.w_n, TP_.w_at_, TP_.w_token, TP_.w_place, TP_.w_value, TP_.w_fault, TP_.w_fat]) (ms_s (a := 0) (b := 20) (N := 21) (rg_w rc_0 (by decide) (by decide)) (by decide))
set_option maxRecDepth 100000 in
set_option maxHeartbeats 8000000 in
theorem c_X7_readCond_5 {l : Launch} {D : va_G} {cy : Nat → ClassId} {L : List Nat} {κ ln : Nat → Nat} {R : Nat → Nat → Option Nat} {I : Nat → Nat → Int32} {J : Nat → Nat → Int64} {ow : Nat → Nat × Nat} (W9 : ∀ a ∈ L, Shp L κ ln R ow a) {x : Nat} (hLx : x ∈ L) (hkx : κ x = 7) {a0 : Nat} (hLa0 : a0 ∈ L) (hka0 : κ a0 = 10) {a1 : Nat} (hLa1 : a1 ∈ L) (hka1 : κ a1 = 8) (a2 : Int32) (ra2 : Rg 5 5 a2) (hU : Iv L κ R ow I) : CtI l yX7_readCond cX7_readCond 6 (some .boolean) { frames := 15, cells := 0, slots := 0, locals := 366 } D cy L κ ln R I J [.ref x, .ref a0, .ref a1, .int a2] (fun r I2 J2 => Iv L κ R ow I2 ∧ Fq L κ ow [704, 705, 1007, 1008, 1009, 1011, 1012, 52000, 52100, 52200] I I2 ∧ Fq L κ ow [1010] J J2 ∧ Rg 0 1 r ∧ ((r, TPf R I2 J2 a0, SPf R I2 J2 x) = fCond 4 (TBf R I J a1) (TPf R I J a0) (SPf R I J x))) := by
  refine CtI.of (by decide +kernel) (Nat.le_of_ble_eq_true rfl) ?_
  intro p e s m below meth c B K
  have C := B.1
  have hF : Fq L κ ow [704, 705, 1007, 1008, 1009, 1011, 1012, 52000, 52100, 52200] I I := fq_rf
  have hG : Fq L κ ow [1010] J J := fq_rf
  obtain ⟨b_1, hb_1, hb_1L, hb_1k, hb_1n, hb_1o⟩ := shp_a (W9 a1 hLa1) hka1 0 15 7 rfl (by decide)
  obtain ⟨b_2, hb_2, hb_2L, hb_2k, hb_2n, hb_2o⟩ := shp_a (W9 a1 hLa1) hka1 2 14 7 rfl (by decide)
  obtain ⟨b_3, hb_3, hb_3L, hb_3k, hb_3n, hb_3o⟩ := shp_a (W9 a1 hLa1) hka1 3 15 6 rfl (by decide)
  have ebqa1 : ∀ I J, TBf R I J a1 = TBq I J a1 b_1 b_2 b_3 := fun I J => by simp only [TBf, rr_, Option.getD_some, hb_1, hb_2, hb_3]
  have wbqa1 : bqw_ L κ ow a1 b_1 b_2 b_3 := ⟨⟨hLa1, hb_1L, hb_2L, hb_3L⟩, ⟨(ro_o hka1 (by decide)), (ro_a hb_1k (by decide) hb_1o hka1 rfl), (ro_a hb_2k (by decide) hb_2o hka1 rfl), (ro_a hb_3k (by decide) hb_3o hka1 rfl)⟩⟩
  obtain ⟨s_4, hs_4⟩ : ∃ z, TBq I J a1 b_1 b_2 b_3 = z := ⟨_, rfl⟩
  obtain ⟨b_5, hb_5, hb_5L, hb_5k, hb_5n, hb_5o⟩ := shp_a (W9 a0 hLa0) hka0 0 13 940 rfl (by decide)
  obtain ⟨b_6, hb_6, hb_6L, hb_6k, hb_6n, hb_6o⟩ := shp_a (W9 a0 hLa0) hka0 1 15 28 rfl (by decide)
  obtain ⟨b_7, hb_7, hb_7L, hb_7k, hb_7n, hb_7o⟩ := shp_a (W9 a0 hLa0) hka0 2 14 901 rfl (by decide)
  obtain ⟨b_8, hb_8, hb_8L, hb_8k, hb_8n, hb_8o⟩ := shp_a (W9 a0 hLa0) hka0 3 14 901 rfl (by decide)
  obtain ⟨b_9, hb_9, hb_9L, hb_9k, hb_9n, hb_9o⟩ := shp_a (W9 a0 hLa0) hka0 4 15 901 rfl (by decide)
  have etqa0 : ∀ I J, TPf R I J a0 = TPq I J a0 b_5 b_6 b_7 b_8 b_9 := fun I J => by simp only [TPf, rr_, Option.getD_some, hb_5, hb_6, hb_7, hb_8, hb_9]
  have wtqa0 : tqw_ L κ ow a0 b_5 b_6 b_7 b_8 b_9 := ⟨⟨hLa0, hb_5L, hb_6L, hb_7L, hb_8L, hb_9L⟩, ⟨(ro_o hka0 (by decide)), (ro_a hb_5k (by decide) hb_5o hka0 rfl), (ro_a hb_6k (by decide) hb_6o hka0 rfl), (ro_a hb_7k (by decide) hb_7o hka0 rfl), (ro_a hb_8k (by decide) hb_8o hka0 rfl), (ro_a hb_9k (by decide) hb_9o hka0 rfl)⟩⟩
  obtain ⟨s_10, hs_10⟩ : ∃ z, TPq I J a0 b_5 b_6 b_7 b_8 b_9 = z := ⟨_, rfl⟩
  have esqx : ∀ I J, SPf R I J x = SPq I J x := fun I J => by simp only [SPf, rr_, Option.getD_some]
  have wsqx : sqw_ L κ ow x := ⟨hLx, (ro_o hkx (by decide))⟩
  obtain ⟨s_11, hs_11⟩ : ∃ z, SPq I J x = z := ⟨_, rfl⟩
  refine g_lo (is := [0, 1, 2, 3]) (lo2 := [(0, .ref x), (1, .ref a0), (2, .ref a1), (3, .int a2)]) rfl ?_
  have l_12 : ∀ (n_12 : Nat) (I_12 : Nat → Nat → Int32) (J_13 : Nat → Nat → Int64) (hU_14 : Iv L κ R ow I_12) (hF_15 : Fq L κ ow [704, 705, 1007, 1008, 1009, 1011, 1012, 52000, 52100, 52200] I I_12) (hG_16 : Fq L κ ow [1010] J J_13) (v_17 : Int32) (rv_17 : Rg 0 1 v_17) (v_18 : Int32) (rv_18 : Rg 0 20 v_18) (hq_19 : fLp (fAll 4 (TBq I_12 J_13 a1 b_1 b_2 b_3)) 17 v_18 v_17 (TPq I_12 J_13 a0 b_5 b_6 b_7 b_8 b_9) (SPq I_12 J_13 x) = fCond 4 s_4 s_10 s_11) (hm_20 : 20 < (v_18 : Int32).toInt + (n_12 : Int)), WG p l e { frames := 15, cells := 0, slots := 0, locals := 366 } s m ([.ref x, .ref a0, .ref a1, .int a2] : List Value).toArray below meth c 6 0 0 (MQ below (Qi_ D cy L κ ln R (fun r I2 J2 => Iv L κ R ow I2 ∧ Fq L κ ow [704, 705, 1007, 1008, 1009, 1011, 1012, 52000, 52100, 52200] I I2 ∧ Fq L κ ow [1010] J J2 ∧ Rg 0 1 r ∧ ((r, TPf R I2 J2 a0, SPf R I2 J2 x) = fCond 4 (TBf R I J a1) (TPf R I J a0) (SPf R I J x)))) ([.ref x, .ref a0, .ref a1, .int a2] : List Value).toArray s 0 0 (Al_ L)) D cy (Al_ L) s.heap L κ ln R I_12 J_13 12 [(0, .ref x), (1, .ref a0), (2, .ref a1), (3, .int a2), (4, .int v_17), (5, .int v_18)] [] := by
    intro n_12
    induction n_12 with
    | zero =>
      intro I_12 J_13 hU_14 hF_15 hG_16 v_17 rv_17 v_18 rv_18 hq_19 hm_20
      exact ms_0 rv_18 hm_20
    | succ n_12 ih_12 =>
      intro I_12 J_13 hU_14 hF_15 hG_16 v_17 rv_17 v_18 rv_18 hq_19 hm_20
      obtain ⟨s_21, hs_21⟩ : ∃ z, TBq I_12 J_13 a1 b_1 b_2 b_3 = z := ⟨_, rfl⟩
      obtain ⟨s_22, hs_22⟩ : ∃ z, TPq I_12 J_13 a0 b_5 b_6 b_7 b_8 b_9 = z := ⟨_, rfl⟩
      obtain ⟨s_23, hs_23⟩ : ∃ z, SPq I_12 J_13 x = z := ⟨_, rfl⟩
      simp only [hs_21, hs_22, hs_23] at hq_19
      have hQ_24 := hq_19.symm
      have u_25 := fLp_eq (rd := fAll 4 s_21) (k := 17) (i := v_18) (r := v_17) (t := s_22) (s := s_23) (rv_18)
      refine g_iload C 5 dX7_readCond_12 rfl ?_
      refine g_bipush C (v := 20) dX7_readCond_14 (by decide) ?_
      refine g_icmp_ge C (tgt := 71) dX7_readCond_16 (by decide) (fun h_26 => ?_) (fun h_26 => ?_)
      · skip
        have r_27 := le_r (h_26) rc_20 rv_18
        refine g_iload C 4 dX7_readCond_71 rfl ?_
        exact g_zret (ty := .boolean) (r := v_17) B K rfl (nar_z (rv_17)) ⟨hU_14, hF_15, hG_16, rv_17, (by (try simp only [h_26, if_true, if_false, bqM_pnm, bqM_par, bqM_dnm, bqM_persons, bqM_dishes, bqM_law, bqM_dogs, TB_.w_pnm, TB_.w_par, TB_.w_dnm, TB_.w_persons, TB_.w_dishes, TB_.w_law, TB_.w_dogs, sqM_sl, sqM_so, SP_.w_sl, SP_.w_so, tqM_by_, tqM_wd, tqM_tk, tqM_pl, tqM_vl, tqM_len, tqM_n, tqM_at_, tqM_token, tqM_place, tqM_value, tqM_fault, tqM_fat, TP_.w_by_, TP_.w_wd, TP_.w_tk, TP_.w_pl, TP_.w_vl, TP_.w_len, TP_.w_n, TP_.w_at_, TP_.w_token, TP_.w_place, TP_.w_value, TP_.w_fault, TP_.w_fat] at hQ_24); (try simp only [h_26, if_true, if_false, bqM_pnm, bqM_par, bqM_dnm, bqM_persons, bqM_dishes, bqM_law, bqM_dogs, TB_.w_pnm, TB_.w_par, TB_.w_dnm, TB_.w_persons, TB_.w_dishes, TB_.w_law, TB_.w_dogs, sqM_sl, sqM_so, SP_.w_sl, SP_.w_so, tqM_by_, tqM_wd, tqM_tk, tqM_pl, tqM_vl, tqM_len, tqM_n, tqM_at_, tqM_token, tqM_place, tqM_value, tqM_fault, tqM_fat, TP_.w_by_, TP_.w_wd, TP_.w_tk, TP_.w_pl, TP_.w_vl, TP_.w_len, TP_.w_n, TP_.w_at_, TP_.w_token, TP_.w_place, TP_.w_value, TP_.w_fault, TP_.w_fat] at u_25); simp only [ebqa1, hs_21, hs_4, etqa0, hs_22, hs_10, esqx, hs_23, hs_11, hQ_24, u_25, h_26, if_true, if_false, bqM_pnm, bqM_par, bqM_dnm, bqM_persons, bqM_dishes, bqM_law, bqM_dogs, TB_.w_pnm, TB_.w_par, TB_.w_dnm, TB_.w_persons, TB_.w_dishes, TB_.w_law, TB_.w_dogs, sqM_sl, sqM_so, SP_.w_sl, SP_.w_so, tqM_by_, tqM_wd, tqM_tk, tqM_pl, tqM_vl, tqM_len, tqM_n, tqM_at_, tqM_token, tqM_place, tqM_value, tqM_fault, tqM_fat, TP_.w_by_, TP_.w_wd, TP_.w_tk, TP_.w_pl, TP_.w_vl, TP_.w_len, TP_.w_n, TP_.w_at_, TP_.w_token, TP_.w_place, TP_.w_value, TP_.w_fault, TP_.w_fat])⟩ dX7_readCond_73
      · skip
        have r_28 := lt_l (hi := 19) (nle h_26) rv_18 rc_20 (by decide)
        refine g_iload C 4 dX7_readCond_19 rfl ?_
        refine g_if_eq C (tgt := 71) dX7_readCond_21 (by decide) (fun h_29 => ?_) (fun h_29 => ?_)
        · skip
          have r_30 := (⟨(rv_17).1, (eq_rg (h_29) rc_0).2⟩ : Rg 0 0 v_17)
          refine g_iload C 4 dX7_readCond_71 rfl ?_
          exact g_zret (ty := .boolean) (r := v_17) B K rfl (nar_z (rg_w r_30 (by decide) (by decide))) ⟨hU_14, hF_15, hG_16, rg_w r_30 (by decide) (by decide), (by (try simp only [h_26, (nle h_26), (eq_true h_29), if_true, if_false, bqM_pnm, bqM_par, bqM_dnm, bqM_persons, bqM_dishes, bqM_law, bqM_dogs, TB_.w_pnm, TB_.w_par, TB_.w_dnm, TB_.w_persons, TB_.w_dishes, TB_.w_law, TB_.w_dogs, sqM_sl, sqM_so, SP_.w_sl, SP_.w_so, tqM_by_, tqM_wd, tqM_tk, tqM_pl, tqM_vl, tqM_len, tqM_n, tqM_at_, tqM_token, tqM_place, tqM_value, tqM_fault, tqM_fat, TP_.w_by_, TP_.w_wd, TP_.w_tk, TP_.w_pl, TP_.w_vl, TP_.w_len, TP_.w_n, TP_.w_at_, TP_.w_token, TP_.w_place, TP_.w_value, TP_.w_fault, TP_.w_fat] at hQ_24); (try simp only [h_26, (nle h_26), (eq_true h_29), if_true, if_false, bqM_pnm, bqM_par, bqM_dnm, bqM_persons, bqM_dishes, bqM_law, bqM_dogs, TB_.w_pnm, TB_.w_par, TB_.w_dnm, TB_.w_persons, TB_.w_dishes, TB_.w_law, TB_.w_dogs, sqM_sl, sqM_so, SP_.w_sl, SP_.w_so, tqM_by_, tqM_wd, tqM_tk, tqM_pl, tqM_vl, tqM_len, tqM_n, tqM_at_, tqM_token, tqM_place, tqM_value, tqM_fault, tqM_fat, TP_.w_by_, TP_.w_wd, TP_.w_tk, TP_.w_pl, TP_.w_vl, TP_.w_len, TP_.w_n, TP_.w_at_, TP_.w_token, TP_.w_place, TP_.w_value, TP_.w_fault, TP_.w_fat] at u_25); simp only [ebqa1, hs_21, hs_4, etqa0, hs_22, hs_10, esqx, hs_23, hs_11, hQ_24, u_25, h_26, (nle h_26), (eq_true h_29), if_true, if_false, bqM_pnm, bqM_par, bqM_dnm, bqM_persons, bqM_dishes, bqM_law, bqM_dogs, TB_.w_pnm, TB_.w_par, TB_.w_dnm, TB_.w_persons, TB_.w_dishes, TB_.w_law, TB_.w_dogs, sqM_sl, sqM_so, SP_.w_sl, SP_.w_so, tqM_by_, tqM_wd, tqM_tk, tqM_pl, tqM_vl, tqM_len, tqM_n, tqM_at_, tqM_token, tqM_place, tqM_value, tqM_fault, tqM_fat, TP_.w_by_, TP_.w_wd, TP_.w_tk, TP_.w_pl, TP_.w_vl, TP_.w_len, TP_.w_n, TP_.w_at_, TP_.w_token, TP_.w_place, TP_.w_value, TP_.w_fault, TP_.w_fat])⟩ dX7_readCond_73
        · skip
          have n_31 : ¬ v_17 = 0 := h_29
          have r_32 := ne_lo (lo := 1) n_31 rv_17 rc_0 rfl (by decide)
          refine g_aload_n C 1 dX7_readCond_24 rfl rfl ?_
          obtain ⟨x_33, hx_33, rx_33⟩ := ex_get (I := I_12) (a := a0) (j := 8) (lo := (-2147483648)) (hi := 2147483647) hU_14.1 hLa0 (ro_o hka0 (by decide)) rfl
          have f_34 : s_22.token = x_33 := (congrArg TP_.token hs_22).symm.trans hx_33
          refine g_getI C K hLa0 hka0 f_7_57 (v := x_33) hx_33 dX7_readCond_25 ?_
          refine g_bipush C (v := 17) dX7_readCond_28 (by decide) ?_
          refine g_icmp_ne C (tgt := 71) dX7_readCond_30 (by decide) (fun h_35 => ?_) (fun h_35 => ?_)
          · skip
            have n_36 : ¬ x_33 = 17 := h_35
            refine g_iload C 4 dX7_readCond_71 rfl ?_
            exact g_zret (ty := .boolean) (r := v_17) B K rfl (nar_z (rg_w r_32 (by decide) (by decide))) ⟨hU_14, hF_15, hG_16, rg_w r_32 (by decide) (by decide), (by (try simp only [h_26, (nle h_26), h_29, hx_33, f_34, h_35, if_true, if_false, bqM_pnm, bqM_par, bqM_dnm, bqM_persons, bqM_dishes, bqM_law, bqM_dogs, TB_.w_pnm, TB_.w_par, TB_.w_dnm, TB_.w_persons, TB_.w_dishes, TB_.w_law, TB_.w_dogs, sqM_sl, sqM_so, SP_.w_sl, SP_.w_so, tqM_by_, tqM_wd, tqM_tk, tqM_pl, tqM_vl, tqM_len, tqM_n, tqM_at_, tqM_token, tqM_place, tqM_value, tqM_fault, tqM_fat, TP_.w_by_, TP_.w_wd, TP_.w_tk, TP_.w_pl, TP_.w_vl, TP_.w_len, TP_.w_n, TP_.w_at_, TP_.w_token, TP_.w_place, TP_.w_value, TP_.w_fault, TP_.w_fat] at hQ_24); (try simp only [h_26, (nle h_26), h_29, hx_33, f_34, h_35, if_true, if_false, bqM_pnm, bqM_par, bqM_dnm, bqM_persons, bqM_dishes, bqM_law, bqM_dogs, TB_.w_pnm, TB_.w_par, TB_.w_dnm, TB_.w_persons, TB_.w_dishes, TB_.w_law, TB_.w_dogs, sqM_sl, sqM_so, SP_.w_sl, SP_.w_so, tqM_by_, tqM_wd, tqM_tk, tqM_pl, tqM_vl, tqM_len, tqM_n, tqM_at_, tqM_token, tqM_place, tqM_value, tqM_fault, tqM_fat, TP_.w_by_, TP_.w_wd, TP_.w_tk, TP_.w_pl, TP_.w_vl, TP_.w_len, TP_.w_n, TP_.w_at_, TP_.w_token, TP_.w_place, TP_.w_value, TP_.w_fault, TP_.w_fat] at u_25); simp only [ebqa1, hs_21, hs_4, etqa0, hs_22, hs_10, esqx, hs_23, hs_11, hQ_24, u_25, h_26, (nle h_26), h_29, hx_33, f_34, h_35, if_true, if_false, bqM_pnm, bqM_par, bqM_dnm, bqM_persons, bqM_dishes, bqM_law, bqM_dogs, TB_.w_pnm, TB_.w_par, TB_.w_dnm, TB_.w_persons, TB_.w_dishes, TB_.w_law, TB_.w_dogs, sqM_sl, sqM_so, SP_.w_sl, SP_.w_so, tqM_by_, tqM_wd, tqM_tk, tqM_pl, tqM_vl, tqM_len, tqM_n, tqM_at_, tqM_token, tqM_place, tqM_value, tqM_fault, tqM_fat, TP_.w_by_, TP_.w_wd, TP_.w_tk, TP_.w_pl, TP_.w_vl, TP_.w_len, TP_.w_n, TP_.w_at_, TP_.w_token, TP_.w_place, TP_.w_value, TP_.w_fault, TP_.w_fat])⟩ dX7_readCond_73
          · skip
            have r_37 := (⟨(eq_rg (h_35) rc_17).1, (eq_rg (h_35) rc_17).2⟩ : Rg 17 17 x_33)
            refine g_aload_n C 1 dX7_readCond_33 rfl rfl ?_
            refine g_callVV C K (c_X10_advance W9 hLa0 hka0   hU_14) hLa0 hka0 (by decide) rfl v_7_60 rfl ⟨rfl, rfl⟩ ⟨Nat.le_of_ble_eq_true rfl, Nat.le_of_ble_eq_true rfl⟩ (Nat.le_of_ble_eq_true rfl) ⟨Nat.le_of_ble_eq_true rfl, Nat.le_of_ble_eq_true rfl⟩ dX7_readCond_34 rfl (st := []) (fun I_39 J_40 h_41 => ?_)
            obtain ⟨hUI_39, hFI_39, hGJ_40, fx_38⟩ := h_41
            have hF_42 := fq_tr hF_15 hFI_39 (by decide)
            have hG_43 := fq_tr hG_16 hGJ_40 (by decide)
            obtain ⟨s_45, hs_45⟩ : ∃ z, TPq I_39 J_40 a0 b_5 b_6 b_7 b_8 b_9 = z := ⟨_, rfl⟩
            have c_44 : fAdvance (s_22) = s_45 := by have q := fx_38; simp only [etqa0, hs_22, hs_45] at q; exact q.symm
            have hs_46 : TBq I_39 J_40 a1 b_1 b_2 b_3 = s_21 := (bq_fq wbqa1 hFI_39 hGJ_40 (by decide) (by decide)).trans hs_21
            have hs_47 : SPq I_39 J_40 x = s_23 := (sq_fq wsqx hFI_39 hGJ_40 (by decide) (by decide)).trans hs_23
            refine g_aload_n C 0 dX7_readCond_37 rfl rfl ?_
            refine g_aload_n C 1 dX7_readCond_38 rfl rfl ?_
            refine g_aload_n C 2 dX7_readCond_39 rfl rfl ?_
            refine g_iload_n C 3 dX7_readCond_40 rfl rfl ?_
            refine g_callVI C K (c_X7_readAll_5 W9 hLx hkx hLa0 hka0 hLa1 hka1 a2 (ra2) hUI_39) hLx hkx (by decide) rfl v_7_54 rfl ⟨rfl, rfl⟩ ⟨Nat.le_of_ble_eq_true rfl, Nat.le_of_ble_eq_true rfl⟩ (Nat.le_of_ble_eq_true rfl) ⟨Nat.le_of_ble_eq_true rfl, Nat.le_of_ble_eq_true rfl⟩ dX7_readCond_41 rfl (st := []) (fun x_48 I_49 J_50 h_51 => ?_)
            obtain ⟨hUI_49, hFI_49, hGJ_50, rx_48, fx_48⟩ := h_51
            have hF_52 := fq_tr hF_42 hFI_49 (by decide)
            have hG_53 := fq_tr hG_43 hGJ_50 (by decide)
            obtain ⟨s_55, hs_55⟩ : ∃ z, TPq I_49 J_50 a0 b_5 b_6 b_7 b_8 b_9 = z := ⟨_, rfl⟩
            obtain ⟨s_56, hs_56⟩ : ∃ z, SPq I_49 J_50 x = z := ⟨_, rfl⟩
            have c_54 : fAll 4 (s_21) (s_45) (s_23) = (x_48, s_55, s_56) := by have q := fx_48; simp only [ebqa1, etqa0, esqx, hs_46, hs_45, hs_47, hs_55, hs_56] at q; exact q.symm
            have hs_57 : TBq I_49 J_50 a1 b_1 b_2 b_3 = s_21 := (bq_fq wbqa1 hFI_49 hGJ_50 (by decide) (by decide)).trans hs_46
            refine g_if_eq C (tgt := 62) dX7_readCond_44 (by decide) (fun h_58 => ?_) (fun h_58 => ?_)
            · skip
              have r_59 := (⟨(rx_48).1, (eq_rg (h_58) rc_0).2⟩ : Rg 0 0 x_48)
              refine g_iconst C (v := 0) dX7_readCond_62 (by decide) ?_
              refine g_istore C dX7_readCond_63 (by decide) (lo2 := [(4, .int 0), (0, .ref x), (1, .ref a0), (2, .ref a1), (3, .int a2), (5, .int v_18)]) rfl ?_
              obtain ⟨x_60, hx_60, rx_60, tx_60⟩ := ex_add (y := 1) 1 20 r_28 rc_1 (by decide) (by decide) (by decide) (by decide)
              refine g_iinc C dX7_readCond_65 (k := 5) (v := x_60) rfl hx_60 (by decide) (lo2 := [(5, .int x_60), (4, .int 0), (0, .ref x), (1, .ref a0), (2, .ref a1), (3, .int a2)]) rfl ?_
              refine g_goto C (tgt := 12) dX7_readCond_68 (by decide) ?_
              refine g_lo (is := [2, 3, 4, 5, 1, 0]) (lo2 := [(0, .ref x), (1, .ref a0), (2, .ref a1), (3, .int a2), (4, .int 0), (5, .int x_60)]) rfl ?_
              exact ih_12 I_49 J_50 hUI_49 hF_52 hG_53 0 (rg_w rc_0 (by decide) (by decide)) x_60 (rg_w rx_60 (by decide) (by decide)) (by (try simp only [h_26, (nle h_26), h_29, hx_33, f_34, (eq_true h_35), c_44, c_54, (eq_true h_58), hx_60, if_true, if_false, bqM_pnm, bqM_par, bqM_dnm, bqM_persons, bqM_dishes, bqM_law, bqM_dogs, TB_.w_pnm, TB_.w_par, TB_.w_dnm, TB_.w_persons, TB_.w_dishes, TB_.w_law, TB_.w_dogs, sqM_sl, sqM_so, SP_.w_sl, SP_.w_so, tqM_by_, tqM_wd, tqM_tk, tqM_pl, tqM_vl, tqM_len, tqM_n, tqM_at_, tqM_token, tqM_place, tqM_value, tqM_fault, tqM_fat, TP_.w_by_, TP_.w_wd, TP_.w_tk, TP_.w_pl, TP_.w_vl, TP_.w_len, TP_.w_n, TP_.w_at_, TP_.w_token, TP_.w_place, TP_.w_value, TP_.w_fault, TP_.w_fat] at hQ_24); (try simp only [h_26, (nle h_26), h_29, hx_33, f_34, (eq_true h_35), c_44, c_54, (eq_true h_58), hx_60, if_true, if_false, bqM_pnm, bqM_par, bqM_dnm, bqM_persons, bqM_dishes, bqM_law, bqM_dogs, TB_.w_pnm, TB_.w_par, TB_.w_dnm, TB_.w_persons, TB_.w_dishes, TB_.w_law, TB_.w_dogs, sqM_sl, sqM_so, SP_.w_sl, SP_.w_so, tqM_by_, tqM_wd, tqM_tk, tqM_pl, tqM_vl, tqM_len, tqM_n, tqM_at_, tqM_token, tqM_place, tqM_value, tqM_fault, tqM_fat, TP_.w_by_, TP_.w_wd, TP_.w_tk, TP_.w_pl, TP_.w_vl, TP_.w_len, TP_.w_n, TP_.w_at_, TP_.w_token, TP_.w_place, TP_.w_value, TP_.w_fault, TP_.w_fat] at u_25); simp only [ebqa1, hs_57, hs_4, etqa0, hs_55, hs_10, esqx, hs_56, hs_11, hQ_24, u_25, h_26, (nle h_26), h_29, hx_33, f_34, (eq_true h_35), c_44, c_54, (eq_true h_58), hx_60, if_true, if_false, bqM_pnm, bqM_par, bqM_dnm, bqM_persons, bqM_dishes, bqM_law, bqM_dogs, TB_.w_pnm, TB_.w_par, TB_.w_dnm, TB_.w_persons, TB_.w_dishes, TB_.w_law, TB_.w_dogs, sqM_sl, sqM_so, SP_.w_sl, SP_.w_so, tqM_by_, tqM_wd, tqM_tk, tqM_pl, tqM_vl, tqM_len, tqM_n, tqM_at_, tqM_token, tqM_place, tqM_value, tqM_fault, tqM_fat, TP_.w_by_, TP_.w_wd, TP_.w_tk, TP_.w_pl, TP_.w_vl, TP_.w_len, TP_.w_n, TP_.w_at_, TP_.w_token, TP_.w_place, TP_.w_value, TP_.w_fault, TP_.w_fat]) (ms_1 hm_20 (ti_k tx_60 rc_1) (by decide))
            · skip
              have n_61 : ¬ x_48 = 0 := h_58
              have r_62 := ne_lo (lo := 1) n_61 rx_48 rc_0 rfl (by decide)
              refine g_aload_n C 0 dX7_readCond_47 rfl rfl ?_
              refine g_bipush C (v := 17) dX7_readCond_48 (by decide) ?_
              refine g_iconst C (v := 0) dX7_readCond_50 (by decide) ?_
              refine g_iconst C (v := 0) dX7_readCond_51 (by decide) ?_
              refine g_callVI C K (c_X7_addStep W9 hLx hkx 17 0 0 (rg_w rc_0 (by decide) (by decide)) hUI_49  (fun q => absurd q (by decide))) hLx hkx (by decide) rfl v_7_63 rfl ⟨rfl, rfl⟩ ⟨Nat.le_of_ble_eq_true rfl, Nat.le_of_ble_eq_true rfl⟩ (Nat.le_of_ble_eq_true rfl) ⟨Nat.le_of_ble_eq_true rfl, Nat.le_of_ble_eq_true rfl⟩ dX7_readCond_52 rfl (st := []) (fun x_63 I_64 J_65 h_66 => ?_)
              obtain ⟨hUI_64, hFI_64, hGJ_65, rx_63, fx_63⟩ := h_66
              have hF_67 := fq_tr hF_52 hFI_64 (by decide)
              have hG_68 := fq_tr hG_53 hGJ_65 (by decide)
              obtain ⟨s_70, hs_70⟩ : ∃ z, SPq I_64 J_65 x = z := ⟨_, rfl⟩
              have c_69 : fAddStep (s_56) = (x_63, s_70) := by have q := fx_63; simp only [esqx, hs_56, hs_70] at q; exact q.symm
              have hs_71 : TBq I_64 J_65 a1 b_1 b_2 b_3 = s_21 := (bq_fq wbqa1 hFI_64 hGJ_65 (by decide) (by decide)).trans hs_57
              have hs_72 : TPq I_64 J_65 a0 b_5 b_6 b_7 b_8 b_9 = s_55 := (tq_fq wtqa0 hFI_64 hGJ_65 (by decide) (by decide)).trans hs_55
              refine g_if_eq C (tgt := 62) dX7_readCond_55 (by decide) (fun h_73 => ?_) (fun h_73 => ?_)
              · skip
                have r_74 := (⟨(rx_63).1, (eq_rg (h_73) rc_0).2⟩ : Rg 0 0 x_63)
                refine g_iconst C (v := 0) dX7_readCond_62 (by decide) ?_
                refine g_istore C dX7_readCond_63 (by decide) (lo2 := [(4, .int 0), (0, .ref x), (1, .ref a0), (2, .ref a1), (3, .int a2), (5, .int v_18)]) rfl ?_
                obtain ⟨x_75, hx_75, rx_75, tx_75⟩ := ex_add (y := 1) 1 20 r_28 rc_1 (by decide) (by decide) (by decide) (by decide)
                refine g_iinc C dX7_readCond_65 (k := 5) (v := x_75) rfl hx_75 (by decide) (lo2 := [(5, .int x_75), (4, .int 0), (0, .ref x), (1, .ref a0), (2, .ref a1), (3, .int a2)]) rfl ?_
                refine g_goto C (tgt := 12) dX7_readCond_68 (by decide) ?_
                refine g_lo (is := [2, 3, 4, 5, 1, 0]) (lo2 := [(0, .ref x), (1, .ref a0), (2, .ref a1), (3, .int a2), (4, .int 0), (5, .int x_75)]) rfl ?_
                exact ih_12 I_64 J_65 hUI_64 hF_67 hG_68 0 (rg_w rc_0 (by decide) (by decide)) x_75 (rg_w rx_75 (by decide) (by decide)) (by (try simp only [h_26, (nle h_26), h_29, hx_33, f_34, (eq_true h_35), c_44, c_54, h_58, c_69, (eq_true h_73), hx_75, if_true, if_false, bqM_pnm, bqM_par, bqM_dnm, bqM_persons, bqM_dishes, bqM_law, bqM_dogs, TB_.w_pnm, TB_.w_par, TB_.w_dnm, TB_.w_persons, TB_.w_dishes, TB_.w_law, TB_.w_dogs, sqM_sl, sqM_so, SP_.w_sl, SP_.w_so, tqM_by_, tqM_wd, tqM_tk, tqM_pl, tqM_vl, tqM_len, tqM_n, tqM_at_, tqM_token, tqM_place, tqM_value, tqM_fault, tqM_fat, TP_.w_by_, TP_.w_wd, TP_.w_tk, TP_.w_pl, TP_.w_vl, TP_.w_len, TP_.w_n, TP_.w_at_, TP_.w_token, TP_.w_place, TP_.w_value, TP_.w_fault, TP_.w_fat] at hQ_24); (try simp only [h_26, (nle h_26), h_29, hx_33, f_34, (eq_true h_35), c_44, c_54, h_58, c_69, (eq_true h_73), hx_75, if_true, if_false, bqM_pnm, bqM_par, bqM_dnm, bqM_persons, bqM_dishes, bqM_law, bqM_dogs, TB_.w_pnm, TB_.w_par, TB_.w_dnm, TB_.w_persons, TB_.w_dishes, TB_.w_law, TB_.w_dogs, sqM_sl, sqM_so, SP_.w_sl, SP_.w_so, tqM_by_, tqM_wd, tqM_tk, tqM_pl, tqM_vl, tqM_len, tqM_n, tqM_at_, tqM_token, tqM_place, tqM_value, tqM_fault, tqM_fat, TP_.w_by_, TP_.w_wd, TP_.w_tk, TP_.w_pl, TP_.w_vl, TP_.w_len, TP_.w_n, TP_.w_at_, TP_.w_token, TP_.w_place, TP_.w_value, TP_.w_fault, TP_.w_fat] at u_25); simp only [ebqa1, hs_71, hs_4, etqa0, hs_72, hs_10, esqx, hs_70, hs_11, hQ_24, u_25, h_26, (nle h_26), h_29, hx_33, f_34, (eq_true h_35), c_44, c_54, h_58, c_69, (eq_true h_73), hx_75, if_true, if_false, bqM_pnm, bqM_par, bqM_dnm, bqM_persons, bqM_dishes, bqM_law, bqM_dogs, TB_.w_pnm, TB_.w_par, TB_.w_dnm, TB_.w_persons, TB_.w_dishes, TB_.w_law, TB_.w_dogs, sqM_sl, sqM_so, SP_.w_sl, SP_.w_so, tqM_by_, tqM_wd, tqM_tk, tqM_pl, tqM_vl, tqM_len, tqM_n, tqM_at_, tqM_token, tqM_place, tqM_value, tqM_fault, tqM_fat, TP_.w_by_, TP_.w_wd, TP_.w_tk, TP_.w_pl, TP_.w_vl, TP_.w_len, TP_.w_n, TP_.w_at_, TP_.w_token, TP_.w_place, TP_.w_value, TP_.w_fault, TP_.w_fat]) (ms_1 hm_20 (ti_k tx_75 rc_1) (by decide))
              · skip
                have n_76 : ¬ x_63 = 0 := h_73
                have r_77 := ne_lo (lo := 1) n_76 rx_63 rc_0 rfl (by decide)
                refine g_iconst C (v := 1) dX7_readCond_58 (by decide) ?_
                refine g_goto C (tgt := 63) dX7_readCond_59 (by decide) ?_
                refine g_istore C dX7_readCond_63 (by decide) (lo2 := [(4, .int 1), (0, .ref x), (1, .ref a0), (2, .ref a1), (3, .int a2), (5, .int v_18)]) rfl ?_
                obtain ⟨x_78, hx_78, rx_78, tx_78⟩ := ex_add (y := 1) 1 20 r_28 rc_1 (by decide) (by decide) (by decide) (by decide)
                refine g_iinc C dX7_readCond_65 (k := 5) (v := x_78) rfl hx_78 (by decide) (lo2 := [(5, .int x_78), (4, .int 1), (0, .ref x), (1, .ref a0), (2, .ref a1), (3, .int a2)]) rfl ?_
                refine g_goto C (tgt := 12) dX7_readCond_68 (by decide) ?_
                refine g_lo (is := [2, 3, 4, 5, 1, 0]) (lo2 := [(0, .ref x), (1, .ref a0), (2, .ref a1), (3, .int a2), (4, .int 1), (5, .int x_78)]) rfl ?_
                exact ih_12 I_64 J_65 hUI_64 hF_67 hG_68 1 (rg_w rc_1 (by decide) (by decide)) x_78 (rg_w rx_78 (by decide) (by decide)) (by (try simp only [h_26, (nle h_26), h_29, hx_33, f_34, (eq_true h_35), c_44, c_54, h_58, c_69, h_73, hx_78, if_true, if_false, bqM_pnm, bqM_par, bqM_dnm, bqM_persons, bqM_dishes, bqM_law, bqM_dogs, TB_.w_pnm, TB_.w_par, TB_.w_dnm, TB_.w_persons, TB_.w_dishes, TB_.w_law, TB_.w_dogs, sqM_sl, sqM_so, SP_.w_sl, SP_.w_so, tqM_by_, tqM_wd, tqM_tk, tqM_pl, tqM_vl, tqM_len, tqM_n, tqM_at_, tqM_token, tqM_place, tqM_value, tqM_fault, tqM_fat, TP_.w_by_, TP_.w_wd, TP_.w_tk, TP_.w_pl, TP_.w_vl, TP_.w_len, TP_.w_n, TP_.w_at_, TP_.w_token, TP_.w_place, TP_.w_value, TP_.w_fault, TP_.w_fat] at hQ_24); (try simp only [h_26, (nle h_26), h_29, hx_33, f_34, (eq_true h_35), c_44, c_54, h_58, c_69, h_73, hx_78, if_true, if_false, bqM_pnm, bqM_par, bqM_dnm, bqM_persons, bqM_dishes, bqM_law, bqM_dogs, TB_.w_pnm, TB_.w_par, TB_.w_dnm, TB_.w_persons, TB_.w_dishes, TB_.w_law, TB_.w_dogs, sqM_sl, sqM_so, SP_.w_sl, SP_.w_so, tqM_by_, tqM_wd, tqM_tk, tqM_pl, tqM_vl, tqM_len, tqM_n, tqM_at_, tqM_token, tqM_place, tqM_value, tqM_fault, tqM_fat, TP_.w_by_, TP_.w_wd, TP_.w_tk, TP_.w_pl, TP_.w_vl, TP_.w_len, TP_.w_n, TP_.w_at_, TP_.w_token, TP_.w_place, TP_.w_value, TP_.w_fault, TP_.w_fat] at u_25); simp only [ebqa1, hs_71, hs_4, etqa0, hs_72, hs_10, esqx, hs_70, hs_11, hQ_24, u_25, h_26, (nle h_26), h_29, hx_33, f_34, (eq_true h_35), c_44, c_54, h_58, c_69, h_73, hx_78, if_true, if_false, bqM_pnm, bqM_par, bqM_dnm, bqM_persons, bqM_dishes, bqM_law, bqM_dogs, TB_.w_pnm, TB_.w_par, TB_.w_dnm, TB_.w_persons, TB_.w_dishes, TB_.w_law, TB_.w_dogs, sqM_sl, sqM_so, SP_.w_sl, SP_.w_so, tqM_by_, tqM_wd, tqM_tk, tqM_pl, tqM_vl, tqM_len, tqM_n, tqM_at_, tqM_token, tqM_place, tqM_value, tqM_fault, tqM_fat, TP_.w_by_, TP_.w_wd, TP_.w_tk, TP_.w_pl, TP_.w_vl, TP_.w_len, TP_.w_n, TP_.w_at_, TP_.w_token, TP_.w_place, TP_.w_value, TP_.w_fault, TP_.w_fat]) (ms_1 hm_20 (ti_k tx_78 rc_1) (by decide))
  refine g_aload_n C 0 dX7_readCond_0 rfl rfl ?_
  refine g_aload_n C 1 dX7_readCond_1 rfl rfl ?_
  refine g_aload_n C 2 dX7_readCond_2 rfl rfl ?_
  refine g_iload_n C 3 dX7_readCond_3 rfl rfl ?_
  refine g_callVI C K (c_X7_readAll_5 W9 hLx hkx hLa0 hka0 hLa1 hka1 a2 (ra2) hU) hLx hkx (by decide) rfl v_7_54 rfl ⟨rfl, rfl⟩ ⟨Nat.le_of_ble_eq_true rfl, Nat.le_of_ble_eq_true rfl⟩ (Nat.le_of_ble_eq_true rfl) ⟨Nat.le_of_ble_eq_true rfl, Nat.le_of_ble_eq_true rfl⟩ dX7_readCond_4 rfl (st := []) (fun x_79 I_80 J_81 h_82 => ?_)
  obtain ⟨hUI_80, hFI_80, hGJ_81, rx_79, fx_79⟩ := h_82
  have hF_83 := fq_tr hF hFI_80 (by decide)
  have hG_84 := fq_tr hG hGJ_81 (by decide)
  obtain ⟨s_86, hs_86⟩ : ∃ z, TPq I_80 J_81 a0 b_5 b_6 b_7 b_8 b_9 = z := ⟨_, rfl⟩
  obtain ⟨s_87, hs_87⟩ : ∃ z, SPq I_80 J_81 x = z := ⟨_, rfl⟩
  have c_85 : fAll 4 (s_4) (s_10) (s_11) = (x_79, s_86, s_87) := by have q := fx_79; simp only [ebqa1, etqa0, esqx, hs_4, hs_10, hs_11, hs_86, hs_87] at q; exact q.symm
  have hs_88 : TBq I_80 J_81 a1 b_1 b_2 b_3 = s_4 := (bq_fq wbqa1 hFI_80 hGJ_81 (by decide) (by decide)).trans hs_4
  refine g_istore C dX7_readCond_7 (by decide) (lo2 := [(4, .int x_79), (0, .ref x), (1, .ref a0), (2, .ref a1), (3, .int a2)]) rfl ?_
  refine g_iconst C (v := 0) dX7_readCond_9 (by decide) ?_
  refine g_istore C dX7_readCond_10 (by decide) (lo2 := [(5, .int 0), (4, .int x_79), (0, .ref x), (1, .ref a0), (2, .ref a1), (3, .int a2)]) rfl ?_
  refine g_lo (is := [2, 3, 4, 5, 1, 0]) (lo2 := [(0, .ref x), (1, .ref a0), (2, .ref a1), (3, .int a2), (4, .int x_79), (5, .int 0)]) rfl ?_
  exact l_12 21 I_80 J_81 hUI_80 hF_83 hG_84 x_79 (rx_79) 0 (rg_w rc_0 (by decide) (by decide)) (by simp only [fCond, ebqa1, hs_88, hs_4, etqa0, hs_86, hs_10, esqx, hs_87, hs_11, c_85, if_true, if_false, bqM_pnm, bqM_par, bqM_dnm, bqM_persons, bqM_dishes, bqM_law, bqM_dogs, TB_.w_pnm, TB_.w_par, TB_.w_dnm, TB_.w_persons, TB_.w_dishes, TB_.w_law, TB_.w_dogs, sqM_sl, sqM_so, SP_.w_sl, SP_.w_so, tqM_by_, tqM_wd, tqM_tk, tqM_pl, tqM_vl, tqM_len, tqM_n, tqM_at_, tqM_token, tqM_place, tqM_value, tqM_fault, tqM_fat, TP_.w_by_, TP_.w_wd, TP_.w_tk, TP_.w_pl, TP_.w_vl, TP_.w_len, TP_.w_n, TP_.w_at_, TP_.w_token, TP_.w_place, TP_.w_value, TP_.w_fault, TP_.w_fat]) (ms_s (a := 0) (b := 20) (N := 21) (rg_w rc_0 (by decide) (by decide)) (by decide))
set_option maxRecDepth 100000 in
set_option maxHeartbeats 8000000 in
theorem c_X7_readOne_4 {l : Launch} {D : va_G} {cy : Nat → ClassId} {L : List Nat} {κ ln : Nat → Nat} {R : Nat → Nat → Option Nat} {I : Nat → Nat → Int32} {J : Nat → Nat → Int64} {ow : Nat → Nat × Nat} (W9 : ∀ a ∈ L, Shp L κ ln R ow a) {x : Nat} (hLx : x ∈ L) (hkx : κ x = 7) {a0 : Nat} (hLa0 : a0 ∈ L) (hka0 : κ a0 = 10) {a1 : Nat} (hLa1 : a1 ∈ L) (hka1 : κ a1 = 8) (a2 : Int32) (ra2 : Rg 4 4 a2) (hU : Iv L κ R ow I) : CtI l yX7_readOne cX7_readOne 5 (some .boolean) { frames := 16, cells := 0, slots := 0, locals := 391 } D cy L κ ln R I J [.ref x, .ref a0, .ref a1, .int a2] (fun r I2 J2 => Iv L κ R ow I2 ∧ Fq L κ ow [704, 705, 1007, 1008, 1009, 1011, 1012, 52000, 52100, 52200] I I2 ∧ Fq L κ ow [1010] J J2 ∧ Rg 0 1 r ∧ ((r, TPf R I2 J2 a0, SPf R I2 J2 x) = fOne 5 (TBf R I J a1) (TPf R I J a0) (SPf R I J x))) := by
  refine CtI.of (by decide +kernel) (Nat.le_of_ble_eq_true rfl) ?_
  intro p e s m below meth c B K
  have C := B.1
  have hF : Fq L κ ow [704, 705, 1007, 1008, 1009, 1011, 1012, 52000, 52100, 52200] I I := fq_rf
  have hG : Fq L κ ow [1010] J J := fq_rf
  obtain ⟨b_1, hb_1, hb_1L, hb_1k, hb_1n, hb_1o⟩ := shp_a (W9 a1 hLa1) hka1 0 15 7 rfl (by decide)
  obtain ⟨b_2, hb_2, hb_2L, hb_2k, hb_2n, hb_2o⟩ := shp_a (W9 a1 hLa1) hka1 2 14 7 rfl (by decide)
  obtain ⟨b_3, hb_3, hb_3L, hb_3k, hb_3n, hb_3o⟩ := shp_a (W9 a1 hLa1) hka1 3 15 6 rfl (by decide)
  have ebqa1 : ∀ I J, TBf R I J a1 = TBq I J a1 b_1 b_2 b_3 := fun I J => by simp only [TBf, rr_, Option.getD_some, hb_1, hb_2, hb_3]
  have wbqa1 : bqw_ L κ ow a1 b_1 b_2 b_3 := ⟨⟨hLa1, hb_1L, hb_2L, hb_3L⟩, ⟨(ro_o hka1 (by decide)), (ro_a hb_1k (by decide) hb_1o hka1 rfl), (ro_a hb_2k (by decide) hb_2o hka1 rfl), (ro_a hb_3k (by decide) hb_3o hka1 rfl)⟩⟩
  obtain ⟨s_4, hs_4⟩ : ∃ z, TBq I J a1 b_1 b_2 b_3 = z := ⟨_, rfl⟩
  obtain ⟨b_5, hb_5, hb_5L, hb_5k, hb_5n, hb_5o⟩ := shp_a (W9 a0 hLa0) hka0 0 13 940 rfl (by decide)
  obtain ⟨b_6, hb_6, hb_6L, hb_6k, hb_6n, hb_6o⟩ := shp_a (W9 a0 hLa0) hka0 1 15 28 rfl (by decide)
  obtain ⟨b_7, hb_7, hb_7L, hb_7k, hb_7n, hb_7o⟩ := shp_a (W9 a0 hLa0) hka0 2 14 901 rfl (by decide)
  obtain ⟨b_8, hb_8, hb_8L, hb_8k, hb_8n, hb_8o⟩ := shp_a (W9 a0 hLa0) hka0 3 14 901 rfl (by decide)
  obtain ⟨b_9, hb_9, hb_9L, hb_9k, hb_9n, hb_9o⟩ := shp_a (W9 a0 hLa0) hka0 4 15 901 rfl (by decide)
  have etqa0 : ∀ I J, TPf R I J a0 = TPq I J a0 b_5 b_6 b_7 b_8 b_9 := fun I J => by simp only [TPf, rr_, Option.getD_some, hb_5, hb_6, hb_7, hb_8, hb_9]
  have wtqa0 : tqw_ L κ ow a0 b_5 b_6 b_7 b_8 b_9 := ⟨⟨hLa0, hb_5L, hb_6L, hb_7L, hb_8L, hb_9L⟩, ⟨(ro_o hka0 (by decide)), (ro_a hb_5k (by decide) hb_5o hka0 rfl), (ro_a hb_6k (by decide) hb_6o hka0 rfl), (ro_a hb_7k (by decide) hb_7o hka0 rfl), (ro_a hb_8k (by decide) hb_8o hka0 rfl), (ro_a hb_9k (by decide) hb_9o hka0 rfl)⟩⟩
  obtain ⟨s_10, hs_10⟩ : ∃ z, TPq I J a0 b_5 b_6 b_7 b_8 b_9 = z := ⟨_, rfl⟩
  have esqx : ∀ I J, SPf R I J x = SPq I J x := fun I J => by simp only [SPf, rr_, Option.getD_some]
  have wsqx : sqw_ L κ ow x := ⟨hLx, (ro_o hkx (by decide))⟩
  obtain ⟨s_11, hs_11⟩ : ∃ z, SPq I J x = z := ⟨_, rfl⟩
  refine g_lo (is := [0, 1, 2, 3]) (lo2 := [(0, .ref x), (1, .ref a0), (2, .ref a1), (3, .int a2)]) rfl ?_
  refine g_aload_n C 1 dX7_readOne_0 rfl rfl ?_
  obtain ⟨x_12, hx_12, rx_12⟩ := ex_get (I := I) (a := a0) (j := 8) (lo := (-2147483648)) (hi := 2147483647) hU.1 hLa0 (ro_o hka0 (by decide)) rfl
  have f_13 : s_10.token = x_12 := (congrArg TP_.token hs_10).symm.trans hx_12
  refine g_getI C K hLa0 hka0 f_7_57 (v := x_12) hx_12 dX7_readOne_1 ?_
  refine g_istore C dX7_readOne_4 (by decide) (lo2 := [(4, .int x_12), (0, .ref x), (1, .ref a0), (2, .ref a1), (3, .int a2)]) rfl ?_
  refine g_iload C 0 dX7_readOne_6 rfl ?_
  refine g_callSI C K (c_X7_beginsOne W9 x_12  hU) s_7_70 rfl ⟨rfl, rfl⟩ ⟨Nat.le_of_ble_eq_true rfl, Nat.le_of_ble_eq_true rfl⟩ (Nat.le_of_ble_eq_true rfl) ⟨Nat.le_of_ble_eq_true rfl, Nat.le_of_ble_eq_true rfl⟩ dX7_readOne_8 rfl (st := []) (fun x_14 I_15 J_16 h_17 => ?_)
  obtain ⟨rfl, rfl, rx_14, fx_14⟩ := h_17
  have c_18 : fBegOne (x_12) = x_14 := fx_14.symm
  refine g_if_ne C (tgt := 20) dX7_readOne_11 (by decide) (fun h_19 => ?_) (fun h_19 => ?_)
  · skip
    have n_20 : ¬ x_14 = 0 := h_19
    have r_21 := ne_lo (lo := 1) n_20 rx_14 rc_0 rfl (by decide)
    refine g_aload_n C 1 dX7_readOne_20 rfl rfl ?_
    obtain ⟨x_22, hx_22, rx_22⟩ := ex_get (I := I) (a := x) (j := 5) (lo := (-2147483648)) (hi := 2147483647) hU.1 hLx (ro_o hkx (by decide)) rfl
    have f_23 : s_11.so = x_22 := (congrArg SP_.so hs_11).symm.trans hx_22
    refine g_getI C K hLx hkx f_7_28 (v := x_22) hx_22 dX7_readOne_21 ?_
    refine g_bipush C (v := 20) dX7_readOne_24 (by decide) ?_
    refine g_icmp_ge C (tgt := 35) dX7_readOne_26 (by decide) (fun h_24 => ?_) (fun h_24 => ?_)
    · skip
      have r_25 := le_r (h_24) rc_20 rx_22
      refine g_aload_n C 2 dX7_readOne_35 rfl rfl ?_
      refine g_iconst C (v := 4) dX7_readOne_36 (by decide) ?_
      refine g_callVI C K (c_X10_fail W9 hLa0 hka0 4 (rg_w rc_4 (by decide) (by decide)) hU) hLa0 hka0 (by decide) rfl v_7_73 rfl ⟨rfl, rfl⟩ ⟨Nat.le_of_ble_eq_true rfl, Nat.le_of_ble_eq_true rfl⟩ (Nat.le_of_ble_eq_true rfl) ⟨Nat.le_of_ble_eq_true rfl, Nat.le_of_ble_eq_true rfl⟩ dX7_readOne_37 rfl (st := []) (fun x_26 I_27 J_28 h_29 => ?_)
      obtain ⟨hUI_27, hFI_27, hGJ_28, rx_26, fx_26⟩ := h_29
      have hF_30 := fq_tr hF hFI_27 (by decide)
      have hG_31 := fq_tr hG hGJ_28 (by decide)
      obtain ⟨s_33, hs_33⟩ : ∃ z, TPq I_27 J_28 a0 b_5 b_6 b_7 b_8 b_9 = z := ⟨_, rfl⟩
      have c_32 : fFail (4) (s_10) = (x_26, s_33) := by have q := fx_26; simp only [etqa0, hs_10, hs_33] at q; exact q.symm
      have hs_34 : TBq I_27 J_28 a1 b_1 b_2 b_3 = s_4 := (bq_fq wbqa1 hFI_27 hGJ_28 (by decide) (by decide)).trans hs_4
      have hs_35 : SPq I_27 J_28 x = s_11 := (sq_fq wsqx hFI_27 hGJ_28 (by decide) (by decide)).trans hs_11
      exact g_zret (ty := .boolean) (r := x_26) B K rfl (nar_z (rg_w rx_26 (by decide) (by decide))) ⟨hUI_27, hF_30, hG_31, rg_w rx_26 (by decide) (by decide), (by simp only [fOne_k5, fAnd2, fFailS, fCmp, ebqa1, hs_34, hs_4, etqa0, hs_33, hs_10, esqx, hs_35, hs_11, hx_12, f_13, c_18, h_19, hx_22, f_23, h_24, c_32, if_true, if_false, bqM_pnm, bqM_par, bqM_dnm, bqM_persons, bqM_dishes, bqM_law, bqM_dogs, TB_.w_pnm, TB_.w_par, TB_.w_dnm, TB_.w_persons, TB_.w_dishes, TB_.w_law, TB_.w_dogs, sqM_sl, sqM_so, SP_.w_sl, SP_.w_so, tqM_by_, tqM_wd, tqM_tk, tqM_pl, tqM_vl, tqM_len, tqM_n, tqM_at_, tqM_token, tqM_place, tqM_value, tqM_fault, tqM_fat, TP_.w_by_, TP_.w_wd, TP_.w_tk, TP_.w_pl, TP_.w_vl, TP_.w_len, TP_.w_n, TP_.w_at_, TP_.w_token, TP_.w_place, TP_.w_value, TP_.w_fault, TP_.w_fat])⟩ dX7_readOne_40
    · skip
      have r_36 := lt_l (hi := 19) (nle h_24) rx_22 rc_20 (by decide)
      refine g_iload_n C 4 dX7_readOne_29 rfl rfl ?_
      refine g_bipush C (v := 8) dX7_readOne_30 (by decide) ?_
      refine g_icmp_le C (tgt := 41) dX7_readOne_32 (by decide) (fun h_37 => ?_) (fun h_37 => ?_)
      · skip
        refine g_aload_n C 1 dX7_readOne_41 rfl rfl ?_
        refine g_dup C dX7_readOne_42 rfl ?_
        refine g_getI C K hLx hkx f_7_28 (v := x_22) hx_22 dX7_readOne_43 ?_
        refine g_iconst C (v := 1) dX7_readOne_46 (by decide) ?_
        obtain ⟨x_38, hx_38, rx_38, tx_38⟩ := ex_add (-2147483647) 20 r_36 rc_1 (by decide) (by decide) (by decide) (by decide)
        refine g_iadd C (v := x_38) dX7_readOne_47 hx_38 ?_
        refine h_putI C K hLx hkx f_7_28 p_7_5 dX7_readOne_48 (fun I_39 hI_39 => ?_)
        have hU_40 := iv_put W9 hU hI_39 (ro_o hkx (by decide)) (lo := (-2147483648)) (hi := 2147483647) (rfl) (rg_all _) rfl
        have hF_41 := fq_puto hF hI_39 hkx (by decide) (by decide)
        have hs_42 : TBq I_39 J a1 b_1 b_2 b_3 = s_4 := by rw [hI_39]; exact (bq_oI wbqa1 (ro_o hkx (by decide)) (by decide)).trans hs_4
        have hs_43 : TPq I_39 J a0 b_5 b_6 b_7 b_8 b_9 = s_10 := by rw [hI_39]; exact (tq_oI wtqa0 (ro_o hkx (by decide)) (by decide)).trans hs_10
        have hs_44 : SPq I_39 J x = (SP_.w_so s_11 (x_38)) := by rw [hI_39]; exact ((sq_so wsqx).trans (congrArg (fun z : SP_ => SP_.w_so z (x_38)) hs_11)).trans rfl
        refine g_aload_n C 2 dX7_readOne_51 rfl rfl ?_
        refine g_callVV C K (c_X10_advance W9 hLa0 hka0   hU_40) hLa0 hka0 (by decide) rfl v_7_60 rfl ⟨rfl, rfl⟩ ⟨Nat.le_of_ble_eq_true rfl, Nat.le_of_ble_eq_true rfl⟩ (Nat.le_of_ble_eq_true rfl) ⟨Nat.le_of_ble_eq_true rfl, Nat.le_of_ble_eq_true rfl⟩ dX7_readOne_52 rfl (st := []) (fun I_46 J_47 h_48 => ?_)
        obtain ⟨hUI_46, hFI_46, hGJ_47, fx_45⟩ := h_48
        have hF_49 := fq_tr hF_41 hFI_46 (by decide)
        have hG_50 := fq_tr hG hGJ_47 (by decide)
        obtain ⟨s_52, hs_52⟩ : ∃ z, TPq I_46 J_47 a0 b_5 b_6 b_7 b_8 b_9 = z := ⟨_, rfl⟩
        have c_51 : fAdvance (s_10) = s_52 := by have q := fx_45; simp only [etqa0, hs_43, hs_52] at q; exact q.symm
        have hs_53 : TBq I_46 J_47 a1 b_1 b_2 b_3 = s_4 := (bq_fq wbqa1 hFI_46 hGJ_47 (by decide) (by decide)).trans hs_42
        have hs_54 : SPq I_46 J_47 x = (SP_.w_so s_11 (x_38)) := (sq_fq wsqx hFI_46 hGJ_47 (by decide) (by decide)).trans hs_44
        refine g_iload C 0 dX7_readOne_55 rfl ?_
        refine g_bipush C (v := 40) dX7_readOne_57 (by decide) ?_
        refine g_icmp_ne C (tgt := 89) dX7_readOne_59 (by decide) (fun h_55 => ?_) (fun h_55 => ?_)
        · skip
          have n_56 : ¬ x_12 = 40 := h_55
          refine g_iload C 0 dX7_readOne_89 rfl ?_
          refine g_bipush C (v := 19) dX7_readOne_91 (by decide) ?_
          refine g_icmp_ne C (tgt := 125) dX7_readOne_93 (by decide) (fun h_57 => ?_) (fun h_57 => ?_)
          · skip
            have n_58 : ¬ x_12 = 19 := h_57
            refine g_aload_n C 1 dX7_readOne_125 rfl rfl ?_
            refine g_aload_n C 2 dX7_readOne_126 rfl rfl ?_
            refine g_aload_n C 3 dX7_readOne_127 rfl rfl ?_
            refine g_iload C 0 dX7_readOne_128 rfl ?_
            refine g_callVI C K (c_X7_readPlainOne W9 hLx hkx hLa0 hka0 hLa1 hka1 x_12  hUI_46) hLx hkx (by decide) rfl v_7_76 rfl ⟨rfl, rfl⟩ ⟨Nat.le_of_ble_eq_true rfl, Nat.le_of_ble_eq_true rfl⟩ (Nat.le_of_ble_eq_true rfl) ⟨Nat.le_of_ble_eq_true rfl, Nat.le_of_ble_eq_true rfl⟩ dX7_readOne_130 rfl (st := []) (fun x_59 I_60 J_61 h_62 => ?_)
            obtain ⟨hUI_60, hFI_60, hGJ_61, rx_59, fx_59⟩ := h_62
            have hF_63 := fq_tr hF_49 hFI_60 (by decide)
            have hG_64 := fq_tr hG_50 hGJ_61 (by decide)
            obtain ⟨s_66, hs_66⟩ : ∃ z, TPq I_60 J_61 a0 b_5 b_6 b_7 b_8 b_9 = z := ⟨_, rfl⟩
            obtain ⟨s_67, hs_67⟩ : ∃ z, SPq I_60 J_61 x = z := ⟨_, rfl⟩
            have c_65 : fPlain (x_12) (s_4) (s_52) ((SP_.w_so s_11 (x_38))) = (x_59, s_66, s_67) := by have q := fx_59; simp only [ebqa1, etqa0, esqx, hs_53, hs_52, hs_54, hs_66, hs_67] at q; exact q.symm
            have hs_68 : TBq I_60 J_61 a1 b_1 b_2 b_3 = s_4 := (bq_fq wbqa1 hFI_60 hGJ_61 (by decide) (by decide)).trans hs_53
            exact g_zret (ty := .boolean) (r := x_59) B K rfl (nar_z (rx_59)) ⟨hUI_60, hF_63, hG_64, rx_59, (by (try simp only [hx_12, f_13, c_18, h_19, hx_22, f_23, h_24, (nle h_24), h_37, hx_38, c_51, h_55, h_57, if_true, if_false, bqM_pnm, bqM_par, bqM_dnm, bqM_persons, bqM_dishes, bqM_law, bqM_dogs, TB_.w_pnm, TB_.w_par, TB_.w_dnm, TB_.w_persons, TB_.w_dishes, TB_.w_law, TB_.w_dogs, sqM_sl, sqM_so, SP_.w_sl, SP_.w_so, tqM_by_, tqM_wd, tqM_tk, tqM_pl, tqM_vl, tqM_len, tqM_n, tqM_at_, tqM_token, tqM_place, tqM_value, tqM_fault, tqM_fat, TP_.w_by_, TP_.w_wd, TP_.w_tk, TP_.w_pl, TP_.w_vl, TP_.w_len, TP_.w_n, TP_.w_at_, TP_.w_token, TP_.w_place, TP_.w_value, TP_.w_fault, TP_.w_fat] at c_65); simp only [fOne_k5, fAnd2, fFailS, fCmp, ebqa1, hs_68, hs_4, etqa0, hs_66, hs_10, esqx, hs_67, hs_11, hx_12, f_13, c_18, h_19, hx_22, f_23, h_24, (nle h_24), h_37, hx_38, c_51, h_55, h_57, c_65, if_true, if_false, bqM_pnm, bqM_par, bqM_dnm, bqM_persons, bqM_dishes, bqM_law, bqM_dogs, TB_.w_pnm, TB_.w_par, TB_.w_dnm, TB_.w_persons, TB_.w_dishes, TB_.w_law, TB_.w_dogs, sqM_sl, sqM_so, SP_.w_sl, SP_.w_so, tqM_by_, tqM_wd, tqM_tk, tqM_pl, tqM_vl, tqM_len, tqM_n, tqM_at_, tqM_token, tqM_place, tqM_value, tqM_fault, tqM_fat, TP_.w_by_, TP_.w_wd, TP_.w_tk, TP_.w_pl, TP_.w_vl, TP_.w_len, TP_.w_n, TP_.w_at_, TP_.w_token, TP_.w_place, TP_.w_value, TP_.w_fault, TP_.w_fat])⟩ dX7_readOne_133
          · skip
            have r_69 := (⟨(eq_rg (h_57) rc_19).1, (eq_rg (h_57) rc_19).2⟩ : Rg 19 19 x_12)
            refine g_aload_n C 1 dX7_readOne_96 rfl rfl ?_
            refine g_aload_n C 2 dX7_readOne_97 rfl rfl ?_
            refine g_aload_n C 3 dX7_readOne_98 rfl rfl ?_
            refine g_iload_n C 4 dX7_readOne_99 rfl rfl ?_
            refine g_iconst C (v := 1) dX7_readOne_100 (by decide) ?_
            obtain ⟨x_70, hx_70, rx_70, tx_70⟩ := ex_add 5 5 ra2 rc_1 (by decide) (by decide) (by decide) (by decide)
            refine g_iadd C (v := x_70) dX7_readOne_101 hx_70 ?_
            refine g_callVI C K (c_X7_readOne_5 W9 hLx hkx hLa0 hka0 hLa1 hka1 x_70 (rx_70) hUI_46) hLx hkx (by decide) rfl v_7_67 rfl ⟨rfl, rfl⟩ ⟨Nat.le_of_ble_eq_true rfl, Nat.le_of_ble_eq_true rfl⟩ (Nat.le_of_ble_eq_true rfl) ⟨Nat.le_of_ble_eq_true rfl, Nat.le_of_ble_eq_true rfl⟩ dX7_readOne_102 rfl (st := []) (fun x_71 I_72 J_73 h_74 => ?_)
            obtain ⟨hUI_72, hFI_72, hGJ_73, rx_71, fx_71⟩ := h_74
            have hF_75 := fq_tr hF_49 hFI_72 (by decide)
            have hG_76 := fq_tr hG_50 hGJ_73 (by decide)
            obtain ⟨s_78, hs_78⟩ : ∃ z, TPq I_72 J_73 a0 b_5 b_6 b_7 b_8 b_9 = z := ⟨_, rfl⟩
            obtain ⟨s_79, hs_79⟩ : ∃ z, SPq I_72 J_73 x = z := ⟨_, rfl⟩
            have c_77 : fOne 4 (s_4) (s_52) ((SP_.w_so s_11 (x_38))) = (x_71, s_78, s_79) := by have q := fx_71; simp only [ebqa1, etqa0, esqx, hs_53, hs_52, hs_54, hs_78, hs_79] at q; exact q.symm
            have hs_80 : TBq I_72 J_73 a1 b_1 b_2 b_3 = s_4 := (bq_fq wbqa1 hFI_72 hGJ_73 (by decide) (by decide)).trans hs_53
            refine g_if_eq C (tgt := 123) dX7_readOne_105 (by decide) (fun h_81 => ?_) (fun h_81 => ?_)
            · skip
              have r_82 := (⟨(rx_71).1, (eq_rg (h_81) rc_0).2⟩ : Rg 0 0 x_71)
              refine g_iconst C (v := 0) dX7_readOne_123 (by decide) ?_
              exact g_zret (ty := .boolean) (r := 0) B K rfl (rfl) ⟨hUI_72, hF_75, hG_76, rg_w rc_0 (by decide) (by decide), (by (try simp only [hx_12, f_13, c_18, h_19, hx_22, f_23, h_24, (nle h_24), h_37, hx_38, c_51, h_55, (eq_true h_57), hx_70, (eq_true h_81), if_true, if_false, bqM_pnm, bqM_par, bqM_dnm, bqM_persons, bqM_dishes, bqM_law, bqM_dogs, TB_.w_pnm, TB_.w_par, TB_.w_dnm, TB_.w_persons, TB_.w_dishes, TB_.w_law, TB_.w_dogs, sqM_sl, sqM_so, SP_.w_sl, SP_.w_so, tqM_by_, tqM_wd, tqM_tk, tqM_pl, tqM_vl, tqM_len, tqM_n, tqM_at_, tqM_token, tqM_place, tqM_value, tqM_fault, tqM_fat, TP_.w_by_, TP_.w_wd, TP_.w_tk, TP_.w_pl, TP_.w_vl, TP_.w_len, TP_.w_n, TP_.w_at_, TP_.w_token, TP_.w_place, TP_.w_value, TP_.w_fault, TP_.w_fat] at c_77); simp only [fOne_k5, fAnd2, fFailS, fCmp, ebqa1, hs_80, hs_4, etqa0, hs_78, hs_10, esqx, hs_79, hs_11, hx_12, f_13, c_18, h_19, hx_22, f_23, h_24, (nle h_24), h_37, hx_38, c_51, h_55, (eq_true h_57), hx_70, c_77, (eq_true h_81), if_true, if_false, bqM_pnm, bqM_par, bqM_dnm, bqM_persons, bqM_dishes, bqM_law, bqM_dogs, TB_.w_pnm, TB_.w_par, TB_.w_dnm, TB_.w_persons, TB_.w_dishes, TB_.w_law, TB_.w_dogs, sqM_sl, sqM_so, SP_.w_sl, SP_.w_so, tqM_by_, tqM_wd, tqM_tk, tqM_pl, tqM_vl, tqM_len, tqM_n, tqM_at_, tqM_token, tqM_place, tqM_value, tqM_fault, tqM_fat, TP_.w_by_, TP_.w_wd, TP_.w_tk, TP_.w_pl, TP_.w_vl, TP_.w_len, TP_.w_n, TP_.w_at_, TP_.w_token, TP_.w_place, TP_.w_value, TP_.w_fault, TP_.w_fat])⟩ dX7_readOne_124
            · skip
              have n_83 : ¬ x_71 = 0 := h_81
              have r_84 := ne_lo (lo := 1) n_83 rx_71 rc_0 rfl (by decide)
              refine g_aload_n C 1 dX7_readOne_108 rfl rfl ?_
              refine g_bipush C (v := 19) dX7_readOne_109 (by decide) ?_
              refine g_iconst C (v := 0) dX7_readOne_111 (by decide) ?_
              refine g_iconst C (v := 0) dX7_readOne_112 (by decide) ?_
              refine g_callVI C K (c_X7_addStep W9 hLx hkx 19 0 0 (rg_w rc_0 (by decide) (by decide)) hUI_72  (fun q => absurd q (by decide))) hLx hkx (by decide) rfl v_7_63 rfl ⟨rfl, rfl⟩ ⟨Nat.le_of_ble_eq_true rfl, Nat.le_of_ble_eq_true rfl⟩ (Nat.le_of_ble_eq_true rfl) ⟨Nat.le_of_ble_eq_true rfl, Nat.le_of_ble_eq_true rfl⟩ dX7_readOne_113 rfl (st := []) (fun x_85 I_86 J_87 h_88 => ?_)
              obtain ⟨hUI_86, hFI_86, hGJ_87, rx_85, fx_85⟩ := h_88
              have hF_89 := fq_tr hF_75 hFI_86 (by decide)
              have hG_90 := fq_tr hG_76 hGJ_87 (by decide)
              obtain ⟨s_92, hs_92⟩ : ∃ z, SPq I_86 J_87 x = z := ⟨_, rfl⟩
              have c_91 : fAddStep (s_79) = (x_85, s_92) := by have q := fx_85; simp only [esqx, hs_79, hs_92] at q; exact q.symm
              have hs_93 : TBq I_86 J_87 a1 b_1 b_2 b_3 = s_4 := (bq_fq wbqa1 hFI_86 hGJ_87 (by decide) (by decide)).trans hs_80
              have hs_94 : TPq I_86 J_87 a0 b_5 b_6 b_7 b_8 b_9 = s_78 := (tq_fq wtqa0 hFI_86 hGJ_87 (by decide) (by decide)).trans hs_78
              refine g_if_eq C (tgt := 123) dX7_readOne_116 (by decide) (fun h_95 => ?_) (fun h_95 => ?_)
              · skip
                have r_96 := (⟨(rx_85).1, (eq_rg (h_95) rc_0).2⟩ : Rg 0 0 x_85)
                refine g_iconst C (v := 0) dX7_readOne_123 (by decide) ?_
                exact g_zret (ty := .boolean) (r := 0) B K rfl (rfl) ⟨hUI_86, hF_89, hG_90, rg_w rc_0 (by decide) (by decide), (by (try simp only [hx_12, f_13, c_18, h_19, hx_22, f_23, h_24, (nle h_24), h_37, hx_38, c_51, h_55, (eq_true h_57), hx_70, h_81, c_91, (eq_true h_95), if_true, if_false, bqM_pnm, bqM_par, bqM_dnm, bqM_persons, bqM_dishes, bqM_law, bqM_dogs, TB_.w_pnm, TB_.w_par, TB_.w_dnm, TB_.w_persons, TB_.w_dishes, TB_.w_law, TB_.w_dogs, sqM_sl, sqM_so, SP_.w_sl, SP_.w_so, tqM_by_, tqM_wd, tqM_tk, tqM_pl, tqM_vl, tqM_len, tqM_n, tqM_at_, tqM_token, tqM_place, tqM_value, tqM_fault, tqM_fat, TP_.w_by_, TP_.w_wd, TP_.w_tk, TP_.w_pl, TP_.w_vl, TP_.w_len, TP_.w_n, TP_.w_at_, TP_.w_token, TP_.w_place, TP_.w_value, TP_.w_fault, TP_.w_fat] at c_77); simp only [fOne_k5, fAnd2, fFailS, fCmp, ebqa1, hs_93, hs_4, etqa0, hs_94, hs_10, esqx, hs_92, hs_11, hx_12, f_13, c_18, h_19, hx_22, f_23, h_24, (nle h_24), h_37, hx_38, c_51, h_55, (eq_true h_57), hx_70, c_77, h_81, c_91, (eq_true h_95), if_true, if_false, bqM_pnm, bqM_par, bqM_dnm, bqM_persons, bqM_dishes, bqM_law, bqM_dogs, TB_.w_pnm, TB_.w_par, TB_.w_dnm, TB_.w_persons, TB_.w_dishes, TB_.w_law, TB_.w_dogs, sqM_sl, sqM_so, SP_.w_sl, SP_.w_so, tqM_by_, tqM_wd, tqM_tk, tqM_pl, tqM_vl, tqM_len, tqM_n, tqM_at_, tqM_token, tqM_place, tqM_value, tqM_fault, tqM_fat, TP_.w_by_, TP_.w_wd, TP_.w_tk, TP_.w_pl, TP_.w_vl, TP_.w_len, TP_.w_n, TP_.w_at_, TP_.w_token, TP_.w_place, TP_.w_value, TP_.w_fault, TP_.w_fat])⟩ dX7_readOne_124
              · skip
                have n_97 : ¬ x_85 = 0 := h_95
                have r_98 := ne_lo (lo := 1) n_97 rx_85 rc_0 rfl (by decide)
                refine g_iconst C (v := 1) dX7_readOne_119 (by decide) ?_
                refine g_goto C (tgt := 124) dX7_readOne_120 (by decide) ?_
                exact g_zret (ty := .boolean) (r := 1) B K rfl (rfl) ⟨hUI_86, hF_89, hG_90, rg_w rc_1 (by decide) (by decide), (by (try simp only [hx_12, f_13, c_18, h_19, hx_22, f_23, h_24, (nle h_24), h_37, hx_38, c_51, h_55, (eq_true h_57), hx_70, h_81, c_91, h_95, if_true, if_false, bqM_pnm, bqM_par, bqM_dnm, bqM_persons, bqM_dishes, bqM_law, bqM_dogs, TB_.w_pnm, TB_.w_par, TB_.w_dnm, TB_.w_persons, TB_.w_dishes, TB_.w_law, TB_.w_dogs, sqM_sl, sqM_so, SP_.w_sl, SP_.w_so, tqM_by_, tqM_wd, tqM_tk, tqM_pl, tqM_vl, tqM_len, tqM_n, tqM_at_, tqM_token, tqM_place, tqM_value, tqM_fault, tqM_fat, TP_.w_by_, TP_.w_wd, TP_.w_tk, TP_.w_pl, TP_.w_vl, TP_.w_len, TP_.w_n, TP_.w_at_, TP_.w_token, TP_.w_place, TP_.w_value, TP_.w_fault, TP_.w_fat] at c_77); simp only [fOne_k5, fAnd2, fFailS, fCmp, ebqa1, hs_93, hs_4, etqa0, hs_94, hs_10, esqx, hs_92, hs_11, hx_12, f_13, c_18, h_19, hx_22, f_23, h_24, (nle h_24), h_37, hx_38, c_51, h_55, (eq_true h_57), hx_70, c_77, h_81, c_91, h_95, if_true, if_false, bqM_pnm, bqM_par, bqM_dnm, bqM_persons, bqM_dishes, bqM_law, bqM_dogs, TB_.w_pnm, TB_.w_par, TB_.w_dnm, TB_.w_persons, TB_.w_dishes, TB_.w_law, TB_.w_dogs, sqM_sl, sqM_so, SP_.w_sl, SP_.w_so, tqM_by_, tqM_wd, tqM_tk, tqM_pl, tqM_vl, tqM_len, tqM_n, tqM_at_, tqM_token, tqM_place, tqM_value, tqM_fault, tqM_fat, TP_.w_by_, TP_.w_wd, TP_.w_tk, TP_.w_pl, TP_.w_vl, TP_.w_len, TP_.w_n, TP_.w_at_, TP_.w_token, TP_.w_place, TP_.w_value, TP_.w_fault, TP_.w_fat])⟩ dX7_readOne_124
        · skip
          have r_99 := (⟨(eq_rg (h_55) rc_40).1, (eq_rg (h_55) rc_40).2⟩ : Rg 40 40 x_12)
          refine g_aload_n C 1 dX7_readOne_62 rfl rfl ?_
          refine g_aload_n C 2 dX7_readOne_63 rfl rfl ?_
          refine g_aload_n C 3 dX7_readOne_64 rfl rfl ?_
          refine g_iload_n C 4 dX7_readOne_65 rfl rfl ?_
          refine g_iconst C (v := 1) dX7_readOne_66 (by decide) ?_
          obtain ⟨x_100, hx_100, rx_100, tx_100⟩ := ex_add 5 5 ra2 rc_1 (by decide) (by decide) (by decide) (by decide)
          refine g_iadd C (v := x_100) dX7_readOne_67 hx_100 ?_
          refine g_callVI C K (c_X7_readCond_5 W9 hLx hkx hLa0 hka0 hLa1 hka1 x_100 (rx_100) hUI_46) hLx hkx (by decide) rfl v_7_46 rfl ⟨rfl, rfl⟩ ⟨Nat.le_of_ble_eq_true rfl, Nat.le_of_ble_eq_true rfl⟩ (Nat.le_of_ble_eq_true rfl) ⟨Nat.le_of_ble_eq_true rfl, Nat.le_of_ble_eq_true rfl⟩ dX7_readOne_68 rfl (st := []) (fun x_101 I_102 J_103 h_104 => ?_)
          obtain ⟨hUI_102, hFI_102, hGJ_103, rx_101, fx_101⟩ := h_104
          have hF_105 := fq_tr hF_49 hFI_102 (by decide)
          have hG_106 := fq_tr hG_50 hGJ_103 (by decide)
          obtain ⟨s_108, hs_108⟩ : ∃ z, TPq I_102 J_103 a0 b_5 b_6 b_7 b_8 b_9 = z := ⟨_, rfl⟩
          obtain ⟨s_109, hs_109⟩ : ∃ z, SPq I_102 J_103 x = z := ⟨_, rfl⟩
          have c_107 : fCond 4 (s_4) (s_52) ((SP_.w_so s_11 (x_38))) = (x_101, s_108, s_109) := by have q := fx_101; simp only [ebqa1, etqa0, esqx, hs_53, hs_52, hs_54, hs_108, hs_109] at q; exact q.symm
          have hs_110 : TBq I_102 J_103 a1 b_1 b_2 b_3 = s_4 := (bq_fq wbqa1 hFI_102 hGJ_103 (by decide) (by decide)).trans hs_53
          refine g_if_eq C (tgt := 87) dX7_readOne_71 (by decide) (fun h_111 => ?_) (fun h_111 => ?_)
          · skip
            have r_112 := (⟨(rx_101).1, (eq_rg (h_111) rc_0).2⟩ : Rg 0 0 x_101)
            refine g_iconst C (v := 0) dX7_readOne_87 (by decide) ?_
            exact g_zret (ty := .boolean) (r := 0) B K rfl (rfl) ⟨hUI_102, hF_105, hG_106, rg_w rc_0 (by decide) (by decide), (by (try simp only [hx_12, f_13, c_18, h_19, hx_22, f_23, h_24, (nle h_24), h_37, hx_38, c_51, (eq_true h_55), hx_100, (eq_true h_111), if_true, if_false, bqM_pnm, bqM_par, bqM_dnm, bqM_persons, bqM_dishes, bqM_law, bqM_dogs, TB_.w_pnm, TB_.w_par, TB_.w_dnm, TB_.w_persons, TB_.w_dishes, TB_.w_law, TB_.w_dogs, sqM_sl, sqM_so, SP_.w_sl, SP_.w_so, tqM_by_, tqM_wd, tqM_tk, tqM_pl, tqM_vl, tqM_len, tqM_n, tqM_at_, tqM_token, tqM_place, tqM_value, tqM_fault, tqM_fat, TP_.w_by_, TP_.w_wd, TP_.w_tk, TP_.w_pl, TP_.w_vl, TP_.w_len, TP_.w_n, TP_.w_at_, TP_.w_token, TP_.w_place, TP_.w_value, TP_.w_fault, TP_.w_fat] at c_107); simp only [fOne_k5, fAnd2, fFailS, fCmp, ebqa1, hs_110, hs_4, etqa0, hs_108, hs_10, esqx, hs_109, hs_11, hx_12, f_13, c_18, h_19, hx_22, f_23, h_24, (nle h_24), h_37, hx_38, c_51, (eq_true h_55), hx_100, c_107, (eq_true h_111), if_true, if_false, bqM_pnm, bqM_par, bqM_dnm, bqM_persons, bqM_dishes, bqM_law, bqM_dogs, TB_.w_pnm, TB_.w_par, TB_.w_dnm, TB_.w_persons, TB_.w_dishes, TB_.w_law, TB_.w_dogs, sqM_sl, sqM_so, SP_.w_sl, SP_.w_so, tqM_by_, tqM_wd, tqM_tk, tqM_pl, tqM_vl, tqM_len, tqM_n, tqM_at_, tqM_token, tqM_place, tqM_value, tqM_fault, tqM_fat, TP_.w_by_, TP_.w_wd, TP_.w_tk, TP_.w_pl, TP_.w_vl, TP_.w_len, TP_.w_n, TP_.w_at_, TP_.w_token, TP_.w_place, TP_.w_value, TP_.w_fault, TP_.w_fat])⟩ dX7_readOne_88
          · skip
            have n_113 : ¬ x_101 = 0 := h_111
            have r_114 := ne_lo (lo := 1) n_113 rx_101 rc_0 rfl (by decide)
            refine g_aload_n C 2 dX7_readOne_74 rfl rfl ?_
            refine g_bipush C (v := 41) dX7_readOne_75 (by decide) ?_
            refine g_callVI C K (c_X10_take W9 hLa0 hka0 41 (rg_w rc_41 (by decide) (by decide)) hUI_102) hLa0 hka0 (by decide) rfl v_7_50 rfl ⟨rfl, rfl⟩ ⟨Nat.le_of_ble_eq_true rfl, Nat.le_of_ble_eq_true rfl⟩ (Nat.le_of_ble_eq_true rfl) ⟨Nat.le_of_ble_eq_true rfl, Nat.le_of_ble_eq_true rfl⟩ dX7_readOne_77 rfl (st := []) (fun x_115 I_116 J_117 h_118 => ?_)
            obtain ⟨hUI_116, hFI_116, hGJ_117, rx_115, fx_115⟩ := h_118
            have hF_119 := fq_tr hF_105 hFI_116 (by decide)
            have hG_120 := fq_tr hG_106 hGJ_117 (by decide)
            obtain ⟨s_122, hs_122⟩ : ∃ z, TPq I_116 J_117 a0 b_5 b_6 b_7 b_8 b_9 = z := ⟨_, rfl⟩
            have c_121 : fTake (41) (s_108) = (x_115, s_122) := by have q := fx_115; simp only [etqa0, hs_108, hs_122] at q; exact q.symm
            have hs_123 : TBq I_116 J_117 a1 b_1 b_2 b_3 = s_4 := (bq_fq wbqa1 hFI_116 hGJ_117 (by decide) (by decide)).trans hs_110
            have hs_124 : SPq I_116 J_117 x = s_109 := (sq_fq wsqx hFI_116 hGJ_117 (by decide) (by decide)).trans hs_109
            refine g_if_eq C (tgt := 87) dX7_readOne_80 (by decide) (fun h_125 => ?_) (fun h_125 => ?_)
            · skip
              have r_126 := (⟨(rx_115).1, (eq_rg (h_125) rc_0).2⟩ : Rg 0 0 x_115)
              refine g_iconst C (v := 0) dX7_readOne_87 (by decide) ?_
              exact g_zret (ty := .boolean) (r := 0) B K rfl (rfl) ⟨hUI_116, hF_119, hG_120, rg_w rc_0 (by decide) (by decide), (by (try simp only [hx_12, f_13, c_18, h_19, hx_22, f_23, h_24, (nle h_24), h_37, hx_38, c_51, (eq_true h_55), hx_100, h_111, c_121, (eq_true h_125), if_true, if_false, bqM_pnm, bqM_par, bqM_dnm, bqM_persons, bqM_dishes, bqM_law, bqM_dogs, TB_.w_pnm, TB_.w_par, TB_.w_dnm, TB_.w_persons, TB_.w_dishes, TB_.w_law, TB_.w_dogs, sqM_sl, sqM_so, SP_.w_sl, SP_.w_so, tqM_by_, tqM_wd, tqM_tk, tqM_pl, tqM_vl, tqM_len, tqM_n, tqM_at_, tqM_token, tqM_place, tqM_value, tqM_fault, tqM_fat, TP_.w_by_, TP_.w_wd, TP_.w_tk, TP_.w_pl, TP_.w_vl, TP_.w_len, TP_.w_n, TP_.w_at_, TP_.w_token, TP_.w_place, TP_.w_value, TP_.w_fault, TP_.w_fat] at c_107); simp only [fOne_k5, fAnd2, fFailS, fCmp, ebqa1, hs_123, hs_4, etqa0, hs_122, hs_10, esqx, hs_124, hs_11, hx_12, f_13, c_18, h_19, hx_22, f_23, h_24, (nle h_24), h_37, hx_38, c_51, (eq_true h_55), hx_100, c_107, h_111, c_121, (eq_true h_125), if_true, if_false, bqM_pnm, bqM_par, bqM_dnm, bqM_persons, bqM_dishes, bqM_law, bqM_dogs, TB_.w_pnm, TB_.w_par, TB_.w_dnm, TB_.w_persons, TB_.w_dishes, TB_.w_law, TB_.w_dogs, sqM_sl, sqM_so, SP_.w_sl, SP_.w_so, tqM_by_, tqM_wd, tqM_tk, tqM_pl, tqM_vl, tqM_len, tqM_n, tqM_at_, tqM_token, tqM_place, tqM_value, tqM_fault, tqM_fat, TP_.w_by_, TP_.w_wd, TP_.w_tk, TP_.w_pl, TP_.w_vl, TP_.w_len, TP_.w_n, TP_.w_at_, TP_.w_token, TP_.w_place, TP_.w_value, TP_.w_fault, TP_.w_fat])⟩ dX7_readOne_88
            · skip
              have n_127 : ¬ x_115 = 0 := h_125
              have r_128 := ne_lo (lo := 1) n_127 rx_115 rc_0 rfl (by decide)
              refine g_iconst C (v := 1) dX7_readOne_83 (by decide) ?_
              refine g_goto C (tgt := 88) dX7_readOne_84 (by decide) ?_
              exact g_zret (ty := .boolean) (r := 1) B K rfl (rfl) ⟨hUI_116, hF_119, hG_120, rg_w rc_1 (by decide) (by decide), (by (try simp only [hx_12, f_13, c_18, h_19, hx_22, f_23, h_24, (nle h_24), h_37, hx_38, c_51, (eq_true h_55), hx_100, h_111, c_121, h_125, if_true, if_false, bqM_pnm, bqM_par, bqM_dnm, bqM_persons, bqM_dishes, bqM_law, bqM_dogs, TB_.w_pnm, TB_.w_par, TB_.w_dnm, TB_.w_persons, TB_.w_dishes, TB_.w_law, TB_.w_dogs, sqM_sl, sqM_so, SP_.w_sl, SP_.w_so, tqM_by_, tqM_wd, tqM_tk, tqM_pl, tqM_vl, tqM_len, tqM_n, tqM_at_, tqM_token, tqM_place, tqM_value, tqM_fault, tqM_fat, TP_.w_by_, TP_.w_wd, TP_.w_tk, TP_.w_pl, TP_.w_vl, TP_.w_len, TP_.w_n, TP_.w_at_, TP_.w_token, TP_.w_place, TP_.w_value, TP_.w_fault, TP_.w_fat] at c_107); simp only [fOne_k5, fAnd2, fFailS, fCmp, ebqa1, hs_123, hs_4, etqa0, hs_122, hs_10, esqx, hs_124, hs_11, hx_12, f_13, c_18, h_19, hx_22, f_23, h_24, (nle h_24), h_37, hx_38, c_51, (eq_true h_55), hx_100, c_107, h_111, c_121, h_125, if_true, if_false, bqM_pnm, bqM_par, bqM_dnm, bqM_persons, bqM_dishes, bqM_law, bqM_dogs, TB_.w_pnm, TB_.w_par, TB_.w_dnm, TB_.w_persons, TB_.w_dishes, TB_.w_law, TB_.w_dogs, sqM_sl, sqM_so, SP_.w_sl, SP_.w_so, tqM_by_, tqM_wd, tqM_tk, tqM_pl, tqM_vl, tqM_len, tqM_n, tqM_at_, tqM_token, tqM_place, tqM_value, tqM_fault, tqM_fat, TP_.w_by_, TP_.w_wd, TP_.w_tk, TP_.w_pl, TP_.w_vl, TP_.w_len, TP_.w_n, TP_.w_at_, TP_.w_token, TP_.w_place, TP_.w_value, TP_.w_fault, TP_.w_fat])⟩ dX7_readOne_88
      · skip
        have r_129 := lt_r (lo := 9) (nle h_37) rc_8 ra2 (by decide)
        exact rg_no r_129 (by decide)
  · skip
    have r_130 := (⟨(rx_14).1, (eq_rg (h_19) rc_0).2⟩ : Rg 0 0 x_14)
    refine g_aload_n C 2 dX7_readOne_14 rfl rfl ?_
    refine g_iconst C (v := 1) dX7_readOne_15 (by decide) ?_
    refine g_callVI C K (c_X10_fail W9 hLa0 hka0 1 (rg_w rc_1 (by decide) (by decide)) hU) hLa0 hka0 (by decide) rfl v_7_73 rfl ⟨rfl, rfl⟩ ⟨Nat.le_of_ble_eq_true rfl, Nat.le_of_ble_eq_true rfl⟩ (Nat.le_of_ble_eq_true rfl) ⟨Nat.le_of_ble_eq_true rfl, Nat.le_of_ble_eq_true rfl⟩ dX7_readOne_16 rfl (st := []) (fun x_131 I_132 J_133 h_134 => ?_)
    obtain ⟨hUI_132, hFI_132, hGJ_133, rx_131, fx_131⟩ := h_134
    have hF_135 := fq_tr hF hFI_132 (by decide)
    have hG_136 := fq_tr hG hGJ_133 (by decide)
    obtain ⟨s_138, hs_138⟩ : ∃ z, TPq I_132 J_133 a0 b_5 b_6 b_7 b_8 b_9 = z := ⟨_, rfl⟩
    have c_137 : fFail (1) (s_10) = (x_131, s_138) := by have q := fx_131; simp only [etqa0, hs_10, hs_138] at q; exact q.symm
    have hs_139 : TBq I_132 J_133 a1 b_1 b_2 b_3 = s_4 := (bq_fq wbqa1 hFI_132 hGJ_133 (by decide) (by decide)).trans hs_4
    have hs_140 : SPq I_132 J_133 x = s_11 := (sq_fq wsqx hFI_132 hGJ_133 (by decide) (by decide)).trans hs_11
    exact g_zret (ty := .boolean) (r := x_131) B K rfl (nar_z (rg_w rx_131 (by decide) (by decide))) ⟨hUI_132, hF_135, hG_136, rg_w rx_131 (by decide) (by decide), (by simp only [fOne_k5, fAnd2, fFailS, fCmp, ebqa1, hs_139, hs_4, etqa0, hs_138, hs_10, esqx, hs_140, hs_11, hx_12, f_13, c_18, (eq_true h_19), c_137, if_true, if_false, bqM_pnm, bqM_par, bqM_dnm, bqM_persons, bqM_dishes, bqM_law, bqM_dogs, TB_.w_pnm, TB_.w_par, TB_.w_dnm, TB_.w_persons, TB_.w_dishes, TB_.w_law, TB_.w_dogs, sqM_sl, sqM_so, SP_.w_sl, SP_.w_so, tqM_by_, tqM_wd, tqM_tk, tqM_pl, tqM_vl, tqM_len, tqM_n, tqM_at_, tqM_token, tqM_place, tqM_value, tqM_fault, tqM_fat, TP_.w_by_, TP_.w_wd, TP_.w_tk, TP_.w_pl, TP_.w_vl, TP_.w_len, TP_.w_n, TP_.w_at_, TP_.w_token, TP_.w_place, TP_.w_value, TP_.w_fault, TP_.w_fat])⟩ dX7_readOne_19
set_option maxRecDepth 100000 in
set_option maxHeartbeats 8000000 in
theorem c_X7_readAll_4 {l : Launch} {D : va_G} {cy : Nat → ClassId} {L : List Nat} {κ ln : Nat → Nat} {R : Nat → Nat → Option Nat} {I : Nat → Nat → Int32} {J : Nat → Nat → Int64} {ow : Nat → Nat × Nat} (W9 : ∀ a ∈ L, Shp L κ ln R ow a) {x : Nat} (hLx : x ∈ L) (hkx : κ x = 7) {a0 : Nat} (hLa0 : a0 ∈ L) (hka0 : κ a0 = 10) {a1 : Nat} (hLa1 : a1 ∈ L) (hka1 : κ a1 = 8) (a2 : Int32) (ra2 : Rg 4 4 a2) (hU : Iv L κ R ow I) : CtI l yX7_readAll cX7_readAll 6 (some .boolean) { frames := 17, cells := 0, slots := 0, locals := 415 } D cy L κ ln R I J [.ref x, .ref a0, .ref a1, .int a2] (fun r I2 J2 => Iv L κ R ow I2 ∧ Fq L κ ow [704, 705, 1007, 1008, 1009, 1011, 1012, 52000, 52100, 52200] I I2 ∧ Fq L κ ow [1010] J J2 ∧ Rg 0 1 r ∧ ((r, TPf R I2 J2 a0, SPf R I2 J2 x) = fAll 5 (TBf R I J a1) (TPf R I J a0) (SPf R I J x))) := by
  refine CtI.of (by decide +kernel) (Nat.le_of_ble_eq_true rfl) ?_
  intro p e s m below meth c B K
  have C := B.1
  have hF : Fq L κ ow [704, 705, 1007, 1008, 1009, 1011, 1012, 52000, 52100, 52200] I I := fq_rf
  have hG : Fq L κ ow [1010] J J := fq_rf
  obtain ⟨b_1, hb_1, hb_1L, hb_1k, hb_1n, hb_1o⟩ := shp_a (W9 a1 hLa1) hka1 0 15 7 rfl (by decide)
  obtain ⟨b_2, hb_2, hb_2L, hb_2k, hb_2n, hb_2o⟩ := shp_a (W9 a1 hLa1) hka1 2 14 7 rfl (by decide)
  obtain ⟨b_3, hb_3, hb_3L, hb_3k, hb_3n, hb_3o⟩ := shp_a (W9 a1 hLa1) hka1 3 15 6 rfl (by decide)
  have ebqa1 : ∀ I J, TBf R I J a1 = TBq I J a1 b_1 b_2 b_3 := fun I J => by simp only [TBf, rr_, Option.getD_some, hb_1, hb_2, hb_3]
  have wbqa1 : bqw_ L κ ow a1 b_1 b_2 b_3 := ⟨⟨hLa1, hb_1L, hb_2L, hb_3L⟩, ⟨(ro_o hka1 (by decide)), (ro_a hb_1k (by decide) hb_1o hka1 rfl), (ro_a hb_2k (by decide) hb_2o hka1 rfl), (ro_a hb_3k (by decide) hb_3o hka1 rfl)⟩⟩
  obtain ⟨s_4, hs_4⟩ : ∃ z, TBq I J a1 b_1 b_2 b_3 = z := ⟨_, rfl⟩
  obtain ⟨b_5, hb_5, hb_5L, hb_5k, hb_5n, hb_5o⟩ := shp_a (W9 a0 hLa0) hka0 0 13 940 rfl (by decide)
  obtain ⟨b_6, hb_6, hb_6L, hb_6k, hb_6n, hb_6o⟩ := shp_a (W9 a0 hLa0) hka0 1 15 28 rfl (by decide)
  obtain ⟨b_7, hb_7, hb_7L, hb_7k, hb_7n, hb_7o⟩ := shp_a (W9 a0 hLa0) hka0 2 14 901 rfl (by decide)
  obtain ⟨b_8, hb_8, hb_8L, hb_8k, hb_8n, hb_8o⟩ := shp_a (W9 a0 hLa0) hka0 3 14 901 rfl (by decide)
  obtain ⟨b_9, hb_9, hb_9L, hb_9k, hb_9n, hb_9o⟩ := shp_a (W9 a0 hLa0) hka0 4 15 901 rfl (by decide)
  have etqa0 : ∀ I J, TPf R I J a0 = TPq I J a0 b_5 b_6 b_7 b_8 b_9 := fun I J => by simp only [TPf, rr_, Option.getD_some, hb_5, hb_6, hb_7, hb_8, hb_9]
  have wtqa0 : tqw_ L κ ow a0 b_5 b_6 b_7 b_8 b_9 := ⟨⟨hLa0, hb_5L, hb_6L, hb_7L, hb_8L, hb_9L⟩, ⟨(ro_o hka0 (by decide)), (ro_a hb_5k (by decide) hb_5o hka0 rfl), (ro_a hb_6k (by decide) hb_6o hka0 rfl), (ro_a hb_7k (by decide) hb_7o hka0 rfl), (ro_a hb_8k (by decide) hb_8o hka0 rfl), (ro_a hb_9k (by decide) hb_9o hka0 rfl)⟩⟩
  obtain ⟨s_10, hs_10⟩ : ∃ z, TPq I J a0 b_5 b_6 b_7 b_8 b_9 = z := ⟨_, rfl⟩
  have esqx : ∀ I J, SPf R I J x = SPq I J x := fun I J => by simp only [SPf, rr_, Option.getD_some]
  have wsqx : sqw_ L κ ow x := ⟨hLx, (ro_o hkx (by decide))⟩
  obtain ⟨s_11, hs_11⟩ : ∃ z, SPq I J x = z := ⟨_, rfl⟩
  refine g_lo (is := [0, 1, 2, 3]) (lo2 := [(0, .ref x), (1, .ref a0), (2, .ref a1), (3, .int a2)]) rfl ?_
  have l_12 : ∀ (n_12 : Nat) (I_12 : Nat → Nat → Int32) (J_13 : Nat → Nat → Int64) (hU_14 : Iv L κ R ow I_12) (hF_15 : Fq L κ ow [704, 705, 1007, 1008, 1009, 1011, 1012, 52000, 52100, 52200] I I_12) (hG_16 : Fq L κ ow [1010] J J_13) (v_17 : Int32) (rv_17 : Rg 0 1 v_17) (v_18 : Int32) (rv_18 : Rg 0 20 v_18) (hq_19 : fLp (fOne 5 (TBq I_12 J_13 a1 b_1 b_2 b_3)) 18 v_18 v_17 (TPq I_12 J_13 a0 b_5 b_6 b_7 b_8 b_9) (SPq I_12 J_13 x) = fAll 5 s_4 s_10 s_11) (hm_20 : 20 < (v_18 : Int32).toInt + (n_12 : Int)), WG p l e { frames := 17, cells := 0, slots := 0, locals := 415 } s m ([.ref x, .ref a0, .ref a1, .int a2] : List Value).toArray below meth c 6 0 0 (MQ below (Qi_ D cy L κ ln R (fun r I2 J2 => Iv L κ R ow I2 ∧ Fq L κ ow [704, 705, 1007, 1008, 1009, 1011, 1012, 52000, 52100, 52200] I I2 ∧ Fq L κ ow [1010] J J2 ∧ Rg 0 1 r ∧ ((r, TPf R I2 J2 a0, SPf R I2 J2 x) = fAll 5 (TBf R I J a1) (TPf R I J a0) (SPf R I J x)))) ([.ref x, .ref a0, .ref a1, .int a2] : List Value).toArray s 0 0 (Al_ L)) D cy (Al_ L) s.heap L κ ln R I_12 J_13 12 [(0, .ref x), (1, .ref a0), (2, .ref a1), (3, .int a2), (4, .int v_17), (5, .int v_18)] [] := by
    intro n_12
    induction n_12 with
    | zero =>
      intro I_12 J_13 hU_14 hF_15 hG_16 v_17 rv_17 v_18 rv_18 hq_19 hm_20
      exact ms_0 rv_18 hm_20
    | succ n_12 ih_12 =>
      intro I_12 J_13 hU_14 hF_15 hG_16 v_17 rv_17 v_18 rv_18 hq_19 hm_20
      obtain ⟨s_21, hs_21⟩ : ∃ z, TBq I_12 J_13 a1 b_1 b_2 b_3 = z := ⟨_, rfl⟩
      obtain ⟨s_22, hs_22⟩ : ∃ z, TPq I_12 J_13 a0 b_5 b_6 b_7 b_8 b_9 = z := ⟨_, rfl⟩
      obtain ⟨s_23, hs_23⟩ : ∃ z, SPq I_12 J_13 x = z := ⟨_, rfl⟩
      simp only [hs_21, hs_22, hs_23] at hq_19
      have hQ_24 := hq_19.symm
      have u_25 := fLp_eq (rd := fOne 5 s_21) (k := 18) (i := v_18) (r := v_17) (t := s_22) (s := s_23) (rv_18)
      refine g_iload C 5 dX7_readAll_12 rfl ?_
      refine g_bipush C (v := 20) dX7_readAll_14 (by decide) ?_
      refine g_icmp_ge C (tgt := 71) dX7_readAll_16 (by decide) (fun h_26 => ?_) (fun h_26 => ?_)
      · skip
        have r_27 := le_r (h_26) rc_20 rv_18
        refine g_iload C 4 dX7_readAll_71 rfl ?_
        exact g_zret (ty := .boolean) (r := v_17) B K rfl (nar_z (rv_17)) ⟨hU_14, hF_15, hG_16, rv_17, (by (try simp only [h_26, if_true, if_false, bqM_pnm, bqM_par, bqM_dnm, bqM_persons, bqM_dishes, bqM_law, bqM_dogs, TB_.w_pnm, TB_.w_par, TB_.w_dnm, TB_.w_persons, TB_.w_dishes, TB_.w_law, TB_.w_dogs, sqM_sl, sqM_so, SP_.w_sl, SP_.w_so, tqM_by_, tqM_wd, tqM_tk, tqM_pl, tqM_vl, tqM_len, tqM_n, tqM_at_, tqM_token, tqM_place, tqM_value, tqM_fault, tqM_fat, TP_.w_by_, TP_.w_wd, TP_.w_tk, TP_.w_pl, TP_.w_vl, TP_.w_len, TP_.w_n, TP_.w_at_, TP_.w_token, TP_.w_place, TP_.w_value, TP_.w_fault, TP_.w_fat] at hQ_24); (try simp only [h_26, if_true, if_false, bqM_pnm, bqM_par, bqM_dnm, bqM_persons, bqM_dishes, bqM_law, bqM_dogs, TB_.w_pnm, TB_.w_par, TB_.w_dnm, TB_.w_persons, TB_.w_dishes, TB_.w_law, TB_.w_dogs, sqM_sl, sqM_so, SP_.w_sl, SP_.w_so, tqM_by_, tqM_wd, tqM_tk, tqM_pl, tqM_vl, tqM_len, tqM_n, tqM_at_, tqM_token, tqM_place, tqM_value, tqM_fault, tqM_fat, TP_.w_by_, TP_.w_wd, TP_.w_tk, TP_.w_pl, TP_.w_vl, TP_.w_len, TP_.w_n, TP_.w_at_, TP_.w_token, TP_.w_place, TP_.w_value, TP_.w_fault, TP_.w_fat] at u_25); simp only [ebqa1, hs_21, hs_4, etqa0, hs_22, hs_10, esqx, hs_23, hs_11, hQ_24, u_25, h_26, if_true, if_false, bqM_pnm, bqM_par, bqM_dnm, bqM_persons, bqM_dishes, bqM_law, bqM_dogs, TB_.w_pnm, TB_.w_par, TB_.w_dnm, TB_.w_persons, TB_.w_dishes, TB_.w_law, TB_.w_dogs, sqM_sl, sqM_so, SP_.w_sl, SP_.w_so, tqM_by_, tqM_wd, tqM_tk, tqM_pl, tqM_vl, tqM_len, tqM_n, tqM_at_, tqM_token, tqM_place, tqM_value, tqM_fault, tqM_fat, TP_.w_by_, TP_.w_wd, TP_.w_tk, TP_.w_pl, TP_.w_vl, TP_.w_len, TP_.w_n, TP_.w_at_, TP_.w_token, TP_.w_place, TP_.w_value, TP_.w_fault, TP_.w_fat])⟩ dX7_readAll_73
      · skip
        have r_28 := lt_l (hi := 19) (nle h_26) rv_18 rc_20 (by decide)
        refine g_iload C 4 dX7_readAll_19 rfl ?_
        refine g_if_eq C (tgt := 71) dX7_readAll_21 (by decide) (fun h_29 => ?_) (fun h_29 => ?_)
        · skip
          have r_30 := (⟨(rv_17).1, (eq_rg (h_29) rc_0).2⟩ : Rg 0 0 v_17)
          refine g_iload C 4 dX7_readAll_71 rfl ?_
          exact g_zret (ty := .boolean) (r := v_17) B K rfl (nar_z (rg_w r_30 (by decide) (by decide))) ⟨hU_14, hF_15, hG_16, rg_w r_30 (by decide) (by decide), (by (try simp only [h_26, (nle h_26), (eq_true h_29), if_true, if_false, bqM_pnm, bqM_par, bqM_dnm, bqM_persons, bqM_dishes, bqM_law, bqM_dogs, TB_.w_pnm, TB_.w_par, TB_.w_dnm, TB_.w_persons, TB_.w_dishes, TB_.w_law, TB_.w_dogs, sqM_sl, sqM_so, SP_.w_sl, SP_.w_so, tqM_by_, tqM_wd, tqM_tk, tqM_pl, tqM_vl, tqM_len, tqM_n, tqM_at_, tqM_token, tqM_place, tqM_value, tqM_fault, tqM_fat, TP_.w_by_, TP_.w_wd, TP_.w_tk, TP_.w_pl, TP_.w_vl, TP_.w_len, TP_.w_n, TP_.w_at_, TP_.w_token, TP_.w_place, TP_.w_value, TP_.w_fault, TP_.w_fat] at hQ_24); (try simp only [h_26, (nle h_26), (eq_true h_29), if_true, if_false, bqM_pnm, bqM_par, bqM_dnm, bqM_persons, bqM_dishes, bqM_law, bqM_dogs, TB_.w_pnm, TB_.w_par, TB_.w_dnm, TB_.w_persons, TB_.w_dishes, TB_.w_law, TB_.w_dogs, sqM_sl, sqM_so, SP_.w_sl, SP_.w_so, tqM_by_, tqM_wd, tqM_tk, tqM_pl, tqM_vl, tqM_len, tqM_n, tqM_at_, tqM_token, tqM_place, tqM_value, tqM_fault, tqM_fat, TP_.w_by_, TP_.w_wd, TP_.w_tk, TP_.w_pl, TP_.w_vl, TP_.w_len, TP_.w_n, TP_.w_at_, TP_.w_token, TP_.w_place, TP_.w_value, TP_.w_fault, TP_.w_fat] at u_25); simp only [ebqa1, hs_21, hs_4, etqa0, hs_22, hs_10, esqx, hs_23, hs_11, hQ_24, u_25, h_26, (nle h_26), (eq_true h_29), if_true, if_false, bqM_pnm, bqM_par, bqM_dnm, bqM_persons, bqM_dishes, bqM_law, bqM_dogs, TB_.w_pnm, TB_.w_par, TB_.w_dnm, TB_.w_persons, TB_.w_dishes, TB_.w_law, TB_.w_dogs, sqM_sl, sqM_so, SP_.w_sl, SP_.w_so, tqM_by_, tqM_wd, tqM_tk, tqM_pl, tqM_vl, tqM_len, tqM_n, tqM_at_, tqM_token, tqM_place, tqM_value, tqM_fault, tqM_fat, TP_.w_by_, TP_.w_wd, TP_.w_tk, TP_.w_pl, TP_.w_vl, TP_.w_len, TP_.w_n, TP_.w_at_, TP_.w_token, TP_.w_place, TP_.w_value, TP_.w_fault, TP_.w_fat])⟩ dX7_readAll_73
        · skip
          have n_31 : ¬ v_17 = 0 := h_29
          have r_32 := ne_lo (lo := 1) n_31 rv_17 rc_0 rfl (by decide)
          refine g_aload_n C 1 dX7_readAll_24 rfl rfl ?_
          obtain ⟨x_33, hx_33, rx_33⟩ := ex_get (I := I_12) (a := a0) (j := 8) (lo := (-2147483648)) (hi := 2147483647) hU_14.1 hLa0 (ro_o hka0 (by decide)) rfl
          have f_34 : s_22.token = x_33 := (congrArg TP_.token hs_22).symm.trans hx_33
          refine g_getI C K hLa0 hka0 f_7_57 (v := x_33) hx_33 dX7_readAll_25 ?_
          refine g_bipush C (v := 18) dX7_readAll_28 (by decide) ?_
          refine g_icmp_ne C (tgt := 71) dX7_readAll_30 (by decide) (fun h_35 => ?_) (fun h_35 => ?_)
          · skip
            have n_36 : ¬ x_33 = 18 := h_35
            refine g_iload C 4 dX7_readAll_71 rfl ?_
            exact g_zret (ty := .boolean) (r := v_17) B K rfl (nar_z (rg_w r_32 (by decide) (by decide))) ⟨hU_14, hF_15, hG_16, rg_w r_32 (by decide) (by decide), (by (try simp only [h_26, (nle h_26), h_29, hx_33, f_34, h_35, if_true, if_false, bqM_pnm, bqM_par, bqM_dnm, bqM_persons, bqM_dishes, bqM_law, bqM_dogs, TB_.w_pnm, TB_.w_par, TB_.w_dnm, TB_.w_persons, TB_.w_dishes, TB_.w_law, TB_.w_dogs, sqM_sl, sqM_so, SP_.w_sl, SP_.w_so, tqM_by_, tqM_wd, tqM_tk, tqM_pl, tqM_vl, tqM_len, tqM_n, tqM_at_, tqM_token, tqM_place, tqM_value, tqM_fault, tqM_fat, TP_.w_by_, TP_.w_wd, TP_.w_tk, TP_.w_pl, TP_.w_vl, TP_.w_len, TP_.w_n, TP_.w_at_, TP_.w_token, TP_.w_place, TP_.w_value, TP_.w_fault, TP_.w_fat] at hQ_24); (try simp only [h_26, (nle h_26), h_29, hx_33, f_34, h_35, if_true, if_false, bqM_pnm, bqM_par, bqM_dnm, bqM_persons, bqM_dishes, bqM_law, bqM_dogs, TB_.w_pnm, TB_.w_par, TB_.w_dnm, TB_.w_persons, TB_.w_dishes, TB_.w_law, TB_.w_dogs, sqM_sl, sqM_so, SP_.w_sl, SP_.w_so, tqM_by_, tqM_wd, tqM_tk, tqM_pl, tqM_vl, tqM_len, tqM_n, tqM_at_, tqM_token, tqM_place, tqM_value, tqM_fault, tqM_fat, TP_.w_by_, TP_.w_wd, TP_.w_tk, TP_.w_pl, TP_.w_vl, TP_.w_len, TP_.w_n, TP_.w_at_, TP_.w_token, TP_.w_place, TP_.w_value, TP_.w_fault, TP_.w_fat] at u_25); simp only [ebqa1, hs_21, hs_4, etqa0, hs_22, hs_10, esqx, hs_23, hs_11, hQ_24, u_25, h_26, (nle h_26), h_29, hx_33, f_34, h_35, if_true, if_false, bqM_pnm, bqM_par, bqM_dnm, bqM_persons, bqM_dishes, bqM_law, bqM_dogs, TB_.w_pnm, TB_.w_par, TB_.w_dnm, TB_.w_persons, TB_.w_dishes, TB_.w_law, TB_.w_dogs, sqM_sl, sqM_so, SP_.w_sl, SP_.w_so, tqM_by_, tqM_wd, tqM_tk, tqM_pl, tqM_vl, tqM_len, tqM_n, tqM_at_, tqM_token, tqM_place, tqM_value, tqM_fault, tqM_fat, TP_.w_by_, TP_.w_wd, TP_.w_tk, TP_.w_pl, TP_.w_vl, TP_.w_len, TP_.w_n, TP_.w_at_, TP_.w_token, TP_.w_place, TP_.w_value, TP_.w_fault, TP_.w_fat])⟩ dX7_readAll_73
          · skip
            have r_37 := (⟨(eq_rg (h_35) rc_18).1, (eq_rg (h_35) rc_18).2⟩ : Rg 18 18 x_33)
            refine g_aload_n C 1 dX7_readAll_33 rfl rfl ?_
            refine g_callVV C K (c_X10_advance W9 hLa0 hka0   hU_14) hLa0 hka0 (by decide) rfl v_7_60 rfl ⟨rfl, rfl⟩ ⟨Nat.le_of_ble_eq_true rfl, Nat.le_of_ble_eq_true rfl⟩ (Nat.le_of_ble_eq_true rfl) ⟨Nat.le_of_ble_eq_true rfl, Nat.le_of_ble_eq_true rfl⟩ dX7_readAll_34 rfl (st := []) (fun I_39 J_40 h_41 => ?_)
            obtain ⟨hUI_39, hFI_39, hGJ_40, fx_38⟩ := h_41
            have hF_42 := fq_tr hF_15 hFI_39 (by decide)
            have hG_43 := fq_tr hG_16 hGJ_40 (by decide)
            obtain ⟨s_45, hs_45⟩ : ∃ z, TPq I_39 J_40 a0 b_5 b_6 b_7 b_8 b_9 = z := ⟨_, rfl⟩
            have c_44 : fAdvance (s_22) = s_45 := by have q := fx_38; simp only [etqa0, hs_22, hs_45] at q; exact q.symm
            have hs_46 : TBq I_39 J_40 a1 b_1 b_2 b_3 = s_21 := (bq_fq wbqa1 hFI_39 hGJ_40 (by decide) (by decide)).trans hs_21
            have hs_47 : SPq I_39 J_40 x = s_23 := (sq_fq wsqx hFI_39 hGJ_40 (by decide) (by decide)).trans hs_23
            refine g_aload_n C 0 dX7_readAll_37 rfl rfl ?_
            refine g_aload_n C 1 dX7_readAll_38 rfl rfl ?_
            refine g_aload_n C 2 dX7_readAll_39 rfl rfl ?_
            refine g_iload_n C 3 dX7_readAll_40 rfl rfl ?_
            refine g_callVI C K (c_X7_readOne_4 W9 hLx hkx hLa0 hka0 hLa1 hka1 a2 (ra2) hUI_39) hLx hkx (by decide) rfl v_7_67 rfl ⟨rfl, rfl⟩ ⟨Nat.le_of_ble_eq_true rfl, Nat.le_of_ble_eq_true rfl⟩ (Nat.le_of_ble_eq_true rfl) ⟨Nat.le_of_ble_eq_true rfl, Nat.le_of_ble_eq_true rfl⟩ dX7_readAll_41 rfl (st := []) (fun x_48 I_49 J_50 h_51 => ?_)
            obtain ⟨hUI_49, hFI_49, hGJ_50, rx_48, fx_48⟩ := h_51
            have hF_52 := fq_tr hF_42 hFI_49 (by decide)
            have hG_53 := fq_tr hG_43 hGJ_50 (by decide)
            obtain ⟨s_55, hs_55⟩ : ∃ z, TPq I_49 J_50 a0 b_5 b_6 b_7 b_8 b_9 = z := ⟨_, rfl⟩
            obtain ⟨s_56, hs_56⟩ : ∃ z, SPq I_49 J_50 x = z := ⟨_, rfl⟩
            have c_54 : fOne 5 (s_21) (s_45) (s_23) = (x_48, s_55, s_56) := by have q := fx_48; simp only [ebqa1, etqa0, esqx, hs_46, hs_45, hs_47, hs_55, hs_56] at q; exact q.symm
            have hs_57 : TBq I_49 J_50 a1 b_1 b_2 b_3 = s_21 := (bq_fq wbqa1 hFI_49 hGJ_50 (by decide) (by decide)).trans hs_46
            refine g_if_eq C (tgt := 62) dX7_readAll_44 (by decide) (fun h_58 => ?_) (fun h_58 => ?_)
            · skip
              have r_59 := (⟨(rx_48).1, (eq_rg (h_58) rc_0).2⟩ : Rg 0 0 x_48)
              refine g_iconst C (v := 0) dX7_readAll_62 (by decide) ?_
              refine g_istore C dX7_readAll_63 (by decide) (lo2 := [(4, .int 0), (0, .ref x), (1, .ref a0), (2, .ref a1), (3, .int a2), (5, .int v_18)]) rfl ?_
              obtain ⟨x_60, hx_60, rx_60, tx_60⟩ := ex_add (y := 1) 1 20 r_28 rc_1 (by decide) (by decide) (by decide) (by decide)
              refine g_iinc C dX7_readAll_65 (k := 5) (v := x_60) rfl hx_60 (by decide) (lo2 := [(5, .int x_60), (4, .int 0), (0, .ref x), (1, .ref a0), (2, .ref a1), (3, .int a2)]) rfl ?_
              refine g_goto C (tgt := 12) dX7_readAll_68 (by decide) ?_
              refine g_lo (is := [2, 3, 4, 5, 1, 0]) (lo2 := [(0, .ref x), (1, .ref a0), (2, .ref a1), (3, .int a2), (4, .int 0), (5, .int x_60)]) rfl ?_
              exact ih_12 I_49 J_50 hUI_49 hF_52 hG_53 0 (rg_w rc_0 (by decide) (by decide)) x_60 (rg_w rx_60 (by decide) (by decide)) (by (try simp only [h_26, (nle h_26), h_29, hx_33, f_34, (eq_true h_35), c_44, c_54, (eq_true h_58), hx_60, if_true, if_false, bqM_pnm, bqM_par, bqM_dnm, bqM_persons, bqM_dishes, bqM_law, bqM_dogs, TB_.w_pnm, TB_.w_par, TB_.w_dnm, TB_.w_persons, TB_.w_dishes, TB_.w_law, TB_.w_dogs, sqM_sl, sqM_so, SP_.w_sl, SP_.w_so, tqM_by_, tqM_wd, tqM_tk, tqM_pl, tqM_vl, tqM_len, tqM_n, tqM_at_, tqM_token, tqM_place, tqM_value, tqM_fault, tqM_fat, TP_.w_by_, TP_.w_wd, TP_.w_tk, TP_.w_pl, TP_.w_vl, TP_.w_len, TP_.w_n, TP_.w_at_, TP_.w_token, TP_.w_place, TP_.w_value, TP_.w_fault, TP_.w_fat] at hQ_24); (try simp only [h_26, (nle h_26), h_29, hx_33, f_34, (eq_true h_35), c_44, c_54, (eq_true h_58), hx_60, if_true, if_false, bqM_pnm, bqM_par, bqM_dnm, bqM_persons, bqM_dishes, bqM_law, bqM_dogs, TB_.w_pnm, TB_.w_par, TB_.w_dnm, TB_.w_persons, TB_.w_dishes, TB_.w_law, TB_.w_dogs, sqM_sl, sqM_so, SP_.w_sl, SP_.w_so, tqM_by_, tqM_wd, tqM_tk, tqM_pl, tqM_vl, tqM_len, tqM_n, tqM_at_, tqM_token, tqM_place, tqM_value, tqM_fault, tqM_fat, TP_.w_by_, TP_.w_wd, TP_.w_tk, TP_.w_pl, TP_.w_vl, TP_.w_len, TP_.w_n, TP_.w_at_, TP_.w_token, TP_.w_place, TP_.w_value, TP_.w_fault, TP_.w_fat] at u_25); simp only [ebqa1, hs_57, hs_4, etqa0, hs_55, hs_10, esqx, hs_56, hs_11, hQ_24, u_25, h_26, (nle h_26), h_29, hx_33, f_34, (eq_true h_35), c_44, c_54, (eq_true h_58), hx_60, if_true, if_false, bqM_pnm, bqM_par, bqM_dnm, bqM_persons, bqM_dishes, bqM_law, bqM_dogs, TB_.w_pnm, TB_.w_par, TB_.w_dnm, TB_.w_persons, TB_.w_dishes, TB_.w_law, TB_.w_dogs, sqM_sl, sqM_so, SP_.w_sl, SP_.w_so, tqM_by_, tqM_wd, tqM_tk, tqM_pl, tqM_vl, tqM_len, tqM_n, tqM_at_, tqM_token, tqM_place, tqM_value, tqM_fault, tqM_fat, TP_.w_by_, TP_.w_wd, TP_.w_tk, TP_.w_pl, TP_.w_vl, TP_.w_len, TP_.w_n, TP_.w_at_, TP_.w_token, TP_.w_place, TP_.w_value, TP_.w_fault, TP_.w_fat]) (ms_1 hm_20 (ti_k tx_60 rc_1) (by decide))
            · skip
              have n_61 : ¬ x_48 = 0 := h_58
              have r_62 := ne_lo (lo := 1) n_61 rx_48 rc_0 rfl (by decide)
              refine g_aload_n C 0 dX7_readAll_47 rfl rfl ?_
              refine g_bipush C (v := 18) dX7_readAll_48 (by decide) ?_
              refine g_iconst C (v := 0) dX7_readAll_50 (by decide) ?_
              refine g_iconst C (v := 0) dX7_readAll_51 (by decide) ?_
              refine g_callVI C K (c_X7_addStep W9 hLx hkx 18 0 0 (rg_w rc_0 (by decide) (by decide)) hUI_49  (fun q => absurd q (by decide))) hLx hkx (by decide) rfl v_7_63 rfl ⟨rfl, rfl⟩ ⟨Nat.le_of_ble_eq_true rfl, Nat.le_of_ble_eq_true rfl⟩ (Nat.le_of_ble_eq_true rfl) ⟨Nat.le_of_ble_eq_true rfl, Nat.le_of_ble_eq_true rfl⟩ dX7_readAll_52 rfl (st := []) (fun x_63 I_64 J_65 h_66 => ?_)
              obtain ⟨hUI_64, hFI_64, hGJ_65, rx_63, fx_63⟩ := h_66
              have hF_67 := fq_tr hF_52 hFI_64 (by decide)
              have hG_68 := fq_tr hG_53 hGJ_65 (by decide)
              obtain ⟨s_70, hs_70⟩ : ∃ z, SPq I_64 J_65 x = z := ⟨_, rfl⟩
              have c_69 : fAddStep (s_56) = (x_63, s_70) := by have q := fx_63; simp only [esqx, hs_56, hs_70] at q; exact q.symm
              have hs_71 : TBq I_64 J_65 a1 b_1 b_2 b_3 = s_21 := (bq_fq wbqa1 hFI_64 hGJ_65 (by decide) (by decide)).trans hs_57
              have hs_72 : TPq I_64 J_65 a0 b_5 b_6 b_7 b_8 b_9 = s_55 := (tq_fq wtqa0 hFI_64 hGJ_65 (by decide) (by decide)).trans hs_55
              refine g_if_eq C (tgt := 62) dX7_readAll_55 (by decide) (fun h_73 => ?_) (fun h_73 => ?_)
              · skip
                have r_74 := (⟨(rx_63).1, (eq_rg (h_73) rc_0).2⟩ : Rg 0 0 x_63)
                refine g_iconst C (v := 0) dX7_readAll_62 (by decide) ?_
                refine g_istore C dX7_readAll_63 (by decide) (lo2 := [(4, .int 0), (0, .ref x), (1, .ref a0), (2, .ref a1), (3, .int a2), (5, .int v_18)]) rfl ?_
                obtain ⟨x_75, hx_75, rx_75, tx_75⟩ := ex_add (y := 1) 1 20 r_28 rc_1 (by decide) (by decide) (by decide) (by decide)
                refine g_iinc C dX7_readAll_65 (k := 5) (v := x_75) rfl hx_75 (by decide) (lo2 := [(5, .int x_75), (4, .int 0), (0, .ref x), (1, .ref a0), (2, .ref a1), (3, .int a2)]) rfl ?_
                refine g_goto C (tgt := 12) dX7_readAll_68 (by decide) ?_
                refine g_lo (is := [2, 3, 4, 5, 1, 0]) (lo2 := [(0, .ref x), (1, .ref a0), (2, .ref a1), (3, .int a2), (4, .int 0), (5, .int x_75)]) rfl ?_
                exact ih_12 I_64 J_65 hUI_64 hF_67 hG_68 0 (rg_w rc_0 (by decide) (by decide)) x_75 (rg_w rx_75 (by decide) (by decide)) (by (try simp only [h_26, (nle h_26), h_29, hx_33, f_34, (eq_true h_35), c_44, c_54, h_58, c_69, (eq_true h_73), hx_75, if_true, if_false, bqM_pnm, bqM_par, bqM_dnm, bqM_persons, bqM_dishes, bqM_law, bqM_dogs, TB_.w_pnm, TB_.w_par, TB_.w_dnm, TB_.w_persons, TB_.w_dishes, TB_.w_law, TB_.w_dogs, sqM_sl, sqM_so, SP_.w_sl, SP_.w_so, tqM_by_, tqM_wd, tqM_tk, tqM_pl, tqM_vl, tqM_len, tqM_n, tqM_at_, tqM_token, tqM_place, tqM_value, tqM_fault, tqM_fat, TP_.w_by_, TP_.w_wd, TP_.w_tk, TP_.w_pl, TP_.w_vl, TP_.w_len, TP_.w_n, TP_.w_at_, TP_.w_token, TP_.w_place, TP_.w_value, TP_.w_fault, TP_.w_fat] at hQ_24); (try simp only [h_26, (nle h_26), h_29, hx_33, f_34, (eq_true h_35), c_44, c_54, h_58, c_69, (eq_true h_73), hx_75, if_true, if_false, bqM_pnm, bqM_par, bqM_dnm, bqM_persons, bqM_dishes, bqM_law, bqM_dogs, TB_.w_pnm, TB_.w_par, TB_.w_dnm, TB_.w_persons, TB_.w_dishes, TB_.w_law, TB_.w_dogs, sqM_sl, sqM_so, SP_.w_sl, SP_.w_so, tqM_by_, tqM_wd, tqM_tk, tqM_pl, tqM_vl, tqM_len, tqM_n, tqM_at_, tqM_token, tqM_place, tqM_value, tqM_fault, tqM_fat, TP_.w_by_, TP_.w_wd, TP_.w_tk, TP_.w_pl, TP_.w_vl, TP_.w_len, TP_.w_n, TP_.w_at_, TP_.w_token, TP_.w_place, TP_.w_value, TP_.w_fault, TP_.w_fat] at u_25); simp only [ebqa1, hs_71, hs_4, etqa0, hs_72, hs_10, esqx, hs_70, hs_11, hQ_24, u_25, h_26, (nle h_26), h_29, hx_33, f_34, (eq_true h_35), c_44, c_54, h_58, c_69, (eq_true h_73), hx_75, if_true, if_false, bqM_pnm, bqM_par, bqM_dnm, bqM_persons, bqM_dishes, bqM_law, bqM_dogs, TB_.w_pnm, TB_.w_par, TB_.w_dnm, TB_.w_persons, TB_.w_dishes, TB_.w_law, TB_.w_dogs, sqM_sl, sqM_so, SP_.w_sl, SP_.w_so, tqM_by_, tqM_wd, tqM_tk, tqM_pl, tqM_vl, tqM_len, tqM_n, tqM_at_, tqM_token, tqM_place, tqM_value, tqM_fault, tqM_fat, TP_.w_by_, TP_.w_wd, TP_.w_tk, TP_.w_pl, TP_.w_vl, TP_.w_len, TP_.w_n, TP_.w_at_, TP_.w_token, TP_.w_place, TP_.w_value, TP_.w_fault, TP_.w_fat]) (ms_1 hm_20 (ti_k tx_75 rc_1) (by decide))
              · skip
                have n_76 : ¬ x_63 = 0 := h_73
                have r_77 := ne_lo (lo := 1) n_76 rx_63 rc_0 rfl (by decide)
                refine g_iconst C (v := 1) dX7_readAll_58 (by decide) ?_
                refine g_goto C (tgt := 63) dX7_readAll_59 (by decide) ?_
                refine g_istore C dX7_readAll_63 (by decide) (lo2 := [(4, .int 1), (0, .ref x), (1, .ref a0), (2, .ref a1), (3, .int a2), (5, .int v_18)]) rfl ?_
                obtain ⟨x_78, hx_78, rx_78, tx_78⟩ := ex_add (y := 1) 1 20 r_28 rc_1 (by decide) (by decide) (by decide) (by decide)
                refine g_iinc C dX7_readAll_65 (k := 5) (v := x_78) rfl hx_78 (by decide) (lo2 := [(5, .int x_78), (4, .int 1), (0, .ref x), (1, .ref a0), (2, .ref a1), (3, .int a2)]) rfl ?_
                refine g_goto C (tgt := 12) dX7_readAll_68 (by decide) ?_
                refine g_lo (is := [2, 3, 4, 5, 1, 0]) (lo2 := [(0, .ref x), (1, .ref a0), (2, .ref a1), (3, .int a2), (4, .int 1), (5, .int x_78)]) rfl ?_
                exact ih_12 I_64 J_65 hUI_64 hF_67 hG_68 1 (rg_w rc_1 (by decide) (by decide)) x_78 (rg_w rx_78 (by decide) (by decide)) (by (try simp only [h_26, (nle h_26), h_29, hx_33, f_34, (eq_true h_35), c_44, c_54, h_58, c_69, h_73, hx_78, if_true, if_false, bqM_pnm, bqM_par, bqM_dnm, bqM_persons, bqM_dishes, bqM_law, bqM_dogs, TB_.w_pnm, TB_.w_par, TB_.w_dnm, TB_.w_persons, TB_.w_dishes, TB_.w_law, TB_.w_dogs, sqM_sl, sqM_so, SP_.w_sl, SP_.w_so, tqM_by_, tqM_wd, tqM_tk, tqM_pl, tqM_vl, tqM_len, tqM_n, tqM_at_, tqM_token, tqM_place, tqM_value, tqM_fault, tqM_fat, TP_.w_by_, TP_.w_wd, TP_.w_tk, TP_.w_pl, TP_.w_vl, TP_.w_len, TP_.w_n, TP_.w_at_, TP_.w_token, TP_.w_place, TP_.w_value, TP_.w_fault, TP_.w_fat] at hQ_24); (try simp only [h_26, (nle h_26), h_29, hx_33, f_34, (eq_true h_35), c_44, c_54, h_58, c_69, h_73, hx_78, if_true, if_false, bqM_pnm, bqM_par, bqM_dnm, bqM_persons, bqM_dishes, bqM_law, bqM_dogs, TB_.w_pnm, TB_.w_par, TB_.w_dnm, TB_.w_persons, TB_.w_dishes, TB_.w_law, TB_.w_dogs, sqM_sl, sqM_so, SP_.w_sl, SP_.w_so, tqM_by_, tqM_wd, tqM_tk, tqM_pl, tqM_vl, tqM_len, tqM_n, tqM_at_, tqM_token, tqM_place, tqM_value, tqM_fault, tqM_fat, TP_.w_by_, TP_.w_wd, TP_.w_tk, TP_.w_pl, TP_.w_vl, TP_.w_len, TP_.w_n, TP_.w_at_, TP_.w_token, TP_.w_place, TP_.w_value, TP_.w_fault, TP_.w_fat] at u_25); simp only [ebqa1, hs_71, hs_4, etqa0, hs_72, hs_10, esqx, hs_70, hs_11, hQ_24, u_25, h_26, (nle h_26), h_29, hx_33, f_34, (eq_true h_35), c_44, c_54, h_58, c_69, h_73, hx_78, if_true, if_false, bqM_pnm, bqM_par, bqM_dnm, bqM_persons, bqM_dishes, bqM_law, bqM_dogs, TB_.w_pnm, TB_.w_par, TB_.w_dnm, TB_.w_persons, TB_.w_dishes, TB_.w_law, TB_.w_dogs, sqM_sl, sqM_so, SP_.w_sl, SP_.w_so, tqM_by_, tqM_wd, tqM_tk, tqM_pl, tqM_vl, tqM_len, tqM_n, tqM_at_, tqM_token, tqM_place, tqM_value, tqM_fault, tqM_fat, TP_.w_by_, TP_.w_wd, TP_.w_tk, TP_.w_pl, TP_.w_vl, TP_.w_len, TP_.w_n, TP_.w_at_, TP_.w_token, TP_.w_place, TP_.w_value, TP_.w_fault, TP_.w_fat]) (ms_1 hm_20 (ti_k tx_78 rc_1) (by decide))
  refine g_aload_n C 0 dX7_readAll_0 rfl rfl ?_
  refine g_aload_n C 1 dX7_readAll_1 rfl rfl ?_
  refine g_aload_n C 2 dX7_readAll_2 rfl rfl ?_
  refine g_iload_n C 3 dX7_readAll_3 rfl rfl ?_
  refine g_callVI C K (c_X7_readOne_4 W9 hLx hkx hLa0 hka0 hLa1 hka1 a2 (ra2) hU) hLx hkx (by decide) rfl v_7_67 rfl ⟨rfl, rfl⟩ ⟨Nat.le_of_ble_eq_true rfl, Nat.le_of_ble_eq_true rfl⟩ (Nat.le_of_ble_eq_true rfl) ⟨Nat.le_of_ble_eq_true rfl, Nat.le_of_ble_eq_true rfl⟩ dX7_readAll_4 rfl (st := []) (fun x_79 I_80 J_81 h_82 => ?_)
  obtain ⟨hUI_80, hFI_80, hGJ_81, rx_79, fx_79⟩ := h_82
  have hF_83 := fq_tr hF hFI_80 (by decide)
  have hG_84 := fq_tr hG hGJ_81 (by decide)
  obtain ⟨s_86, hs_86⟩ : ∃ z, TPq I_80 J_81 a0 b_5 b_6 b_7 b_8 b_9 = z := ⟨_, rfl⟩
  obtain ⟨s_87, hs_87⟩ : ∃ z, SPq I_80 J_81 x = z := ⟨_, rfl⟩
  have c_85 : fOne 5 (s_4) (s_10) (s_11) = (x_79, s_86, s_87) := by have q := fx_79; simp only [ebqa1, etqa0, esqx, hs_4, hs_10, hs_11, hs_86, hs_87] at q; exact q.symm
  have hs_88 : TBq I_80 J_81 a1 b_1 b_2 b_3 = s_4 := (bq_fq wbqa1 hFI_80 hGJ_81 (by decide) (by decide)).trans hs_4
  refine g_istore C dX7_readAll_7 (by decide) (lo2 := [(4, .int x_79), (0, .ref x), (1, .ref a0), (2, .ref a1), (3, .int a2)]) rfl ?_
  refine g_iconst C (v := 0) dX7_readAll_9 (by decide) ?_
  refine g_istore C dX7_readAll_10 (by decide) (lo2 := [(5, .int 0), (4, .int x_79), (0, .ref x), (1, .ref a0), (2, .ref a1), (3, .int a2)]) rfl ?_
  refine g_lo (is := [2, 3, 4, 5, 1, 0]) (lo2 := [(0, .ref x), (1, .ref a0), (2, .ref a1), (3, .int a2), (4, .int x_79), (5, .int 0)]) rfl ?_
  exact l_12 21 I_80 J_81 hUI_80 hF_83 hG_84 x_79 (rx_79) 0 (rg_w rc_0 (by decide) (by decide)) (by simp only [fAll, ebqa1, hs_88, hs_4, etqa0, hs_86, hs_10, esqx, hs_87, hs_11, c_85, if_true, if_false, bqM_pnm, bqM_par, bqM_dnm, bqM_persons, bqM_dishes, bqM_law, bqM_dogs, TB_.w_pnm, TB_.w_par, TB_.w_dnm, TB_.w_persons, TB_.w_dishes, TB_.w_law, TB_.w_dogs, sqM_sl, sqM_so, SP_.w_sl, SP_.w_so, tqM_by_, tqM_wd, tqM_tk, tqM_pl, tqM_vl, tqM_len, tqM_n, tqM_at_, tqM_token, tqM_place, tqM_value, tqM_fault, tqM_fat, TP_.w_by_, TP_.w_wd, TP_.w_tk, TP_.w_pl, TP_.w_vl, TP_.w_len, TP_.w_n, TP_.w_at_, TP_.w_token, TP_.w_place, TP_.w_value, TP_.w_fault, TP_.w_fat]) (ms_s (a := 0) (b := 20) (N := 21) (rg_w rc_0 (by decide) (by decide)) (by decide))
set_option maxRecDepth 100000 in
set_option maxHeartbeats 8000000 in
theorem c_X7_readCond_4 {l : Launch} {D : va_G} {cy : Nat → ClassId} {L : List Nat} {κ ln : Nat → Nat} {R : Nat → Nat → Option Nat} {I : Nat → Nat → Int32} {J : Nat → Nat → Int64} {ow : Nat → Nat × Nat} (W9 : ∀ a ∈ L, Shp L κ ln R ow a) {x : Nat} (hLx : x ∈ L) (hkx : κ x = 7) {a0 : Nat} (hLa0 : a0 ∈ L) (hka0 : κ a0 = 10) {a1 : Nat} (hLa1 : a1 ∈ L) (hka1 : κ a1 = 8) (a2 : Int32) (ra2 : Rg 4 4 a2) (hU : Iv L κ R ow I) : CtI l yX7_readCond cX7_readCond 6 (some .boolean) { frames := 18, cells := 0, slots := 0, locals := 440 } D cy L κ ln R I J [.ref x, .ref a0, .ref a1, .int a2] (fun r I2 J2 => Iv L κ R ow I2 ∧ Fq L κ ow [704, 705, 1007, 1008, 1009, 1011, 1012, 52000, 52100, 52200] I I2 ∧ Fq L κ ow [1010] J J2 ∧ Rg 0 1 r ∧ ((r, TPf R I2 J2 a0, SPf R I2 J2 x) = fCond 5 (TBf R I J a1) (TPf R I J a0) (SPf R I J x))) := by
  refine CtI.of (by decide +kernel) (Nat.le_of_ble_eq_true rfl) ?_
  intro p e s m below meth c B K
  have C := B.1
  have hF : Fq L κ ow [704, 705, 1007, 1008, 1009, 1011, 1012, 52000, 52100, 52200] I I := fq_rf
  have hG : Fq L κ ow [1010] J J := fq_rf
  obtain ⟨b_1, hb_1, hb_1L, hb_1k, hb_1n, hb_1o⟩ := shp_a (W9 a1 hLa1) hka1 0 15 7 rfl (by decide)
  obtain ⟨b_2, hb_2, hb_2L, hb_2k, hb_2n, hb_2o⟩ := shp_a (W9 a1 hLa1) hka1 2 14 7 rfl (by decide)
  obtain ⟨b_3, hb_3, hb_3L, hb_3k, hb_3n, hb_3o⟩ := shp_a (W9 a1 hLa1) hka1 3 15 6 rfl (by decide)
  have ebqa1 : ∀ I J, TBf R I J a1 = TBq I J a1 b_1 b_2 b_3 := fun I J => by simp only [TBf, rr_, Option.getD_some, hb_1, hb_2, hb_3]
  have wbqa1 : bqw_ L κ ow a1 b_1 b_2 b_3 := ⟨⟨hLa1, hb_1L, hb_2L, hb_3L⟩, ⟨(ro_o hka1 (by decide)), (ro_a hb_1k (by decide) hb_1o hka1 rfl), (ro_a hb_2k (by decide) hb_2o hka1 rfl), (ro_a hb_3k (by decide) hb_3o hka1 rfl)⟩⟩
  obtain ⟨s_4, hs_4⟩ : ∃ z, TBq I J a1 b_1 b_2 b_3 = z := ⟨_, rfl⟩
  obtain ⟨b_5, hb_5, hb_5L, hb_5k, hb_5n, hb_5o⟩ := shp_a (W9 a0 hLa0) hka0 0 13 940 rfl (by decide)
  obtain ⟨b_6, hb_6, hb_6L, hb_6k, hb_6n, hb_6o⟩ := shp_a (W9 a0 hLa0) hka0 1 15 28 rfl (by decide)
  obtain ⟨b_7, hb_7, hb_7L, hb_7k, hb_7n, hb_7o⟩ := shp_a (W9 a0 hLa0) hka0 2 14 901 rfl (by decide)
  obtain ⟨b_8, hb_8, hb_8L, hb_8k, hb_8n, hb_8o⟩ := shp_a (W9 a0 hLa0) hka0 3 14 901 rfl (by decide)
  obtain ⟨b_9, hb_9, hb_9L, hb_9k, hb_9n, hb_9o⟩ := shp_a (W9 a0 hLa0) hka0 4 15 901 rfl (by decide)
  have etqa0 : ∀ I J, TPf R I J a0 = TPq I J a0 b_5 b_6 b_7 b_8 b_9 := fun I J => by simp only [TPf, rr_, Option.getD_some, hb_5, hb_6, hb_7, hb_8, hb_9]
  have wtqa0 : tqw_ L κ ow a0 b_5 b_6 b_7 b_8 b_9 := ⟨⟨hLa0, hb_5L, hb_6L, hb_7L, hb_8L, hb_9L⟩, ⟨(ro_o hka0 (by decide)), (ro_a hb_5k (by decide) hb_5o hka0 rfl), (ro_a hb_6k (by decide) hb_6o hka0 rfl), (ro_a hb_7k (by decide) hb_7o hka0 rfl), (ro_a hb_8k (by decide) hb_8o hka0 rfl), (ro_a hb_9k (by decide) hb_9o hka0 rfl)⟩⟩
  obtain ⟨s_10, hs_10⟩ : ∃ z, TPq I J a0 b_5 b_6 b_7 b_8 b_9 = z := ⟨_, rfl⟩
  have esqx : ∀ I J, SPf R I J x = SPq I J x := fun I J => by simp only [SPf, rr_, Option.getD_some]
  have wsqx : sqw_ L κ ow x := ⟨hLx, (ro_o hkx (by decide))⟩
  obtain ⟨s_11, hs_11⟩ : ∃ z, SPq I J x = z := ⟨_, rfl⟩
  refine g_lo (is := [0, 1, 2, 3]) (lo2 := [(0, .ref x), (1, .ref a0), (2, .ref a1), (3, .int a2)]) rfl ?_
  have l_12 : ∀ (n_12 : Nat) (I_12 : Nat → Nat → Int32) (J_13 : Nat → Nat → Int64) (hU_14 : Iv L κ R ow I_12) (hF_15 : Fq L κ ow [704, 705, 1007, 1008, 1009, 1011, 1012, 52000, 52100, 52200] I I_12) (hG_16 : Fq L κ ow [1010] J J_13) (v_17 : Int32) (rv_17 : Rg 0 1 v_17) (v_18 : Int32) (rv_18 : Rg 0 20 v_18) (hq_19 : fLp (fAll 5 (TBq I_12 J_13 a1 b_1 b_2 b_3)) 17 v_18 v_17 (TPq I_12 J_13 a0 b_5 b_6 b_7 b_8 b_9) (SPq I_12 J_13 x) = fCond 5 s_4 s_10 s_11) (hm_20 : 20 < (v_18 : Int32).toInt + (n_12 : Int)), WG p l e { frames := 18, cells := 0, slots := 0, locals := 440 } s m ([.ref x, .ref a0, .ref a1, .int a2] : List Value).toArray below meth c 6 0 0 (MQ below (Qi_ D cy L κ ln R (fun r I2 J2 => Iv L κ R ow I2 ∧ Fq L κ ow [704, 705, 1007, 1008, 1009, 1011, 1012, 52000, 52100, 52200] I I2 ∧ Fq L κ ow [1010] J J2 ∧ Rg 0 1 r ∧ ((r, TPf R I2 J2 a0, SPf R I2 J2 x) = fCond 5 (TBf R I J a1) (TPf R I J a0) (SPf R I J x)))) ([.ref x, .ref a0, .ref a1, .int a2] : List Value).toArray s 0 0 (Al_ L)) D cy (Al_ L) s.heap L κ ln R I_12 J_13 12 [(0, .ref x), (1, .ref a0), (2, .ref a1), (3, .int a2), (4, .int v_17), (5, .int v_18)] [] := by
    intro n_12
    induction n_12 with
    | zero =>
      intro I_12 J_13 hU_14 hF_15 hG_16 v_17 rv_17 v_18 rv_18 hq_19 hm_20
      exact ms_0 rv_18 hm_20
    | succ n_12 ih_12 =>
      intro I_12 J_13 hU_14 hF_15 hG_16 v_17 rv_17 v_18 rv_18 hq_19 hm_20
      obtain ⟨s_21, hs_21⟩ : ∃ z, TBq I_12 J_13 a1 b_1 b_2 b_3 = z := ⟨_, rfl⟩
      obtain ⟨s_22, hs_22⟩ : ∃ z, TPq I_12 J_13 a0 b_5 b_6 b_7 b_8 b_9 = z := ⟨_, rfl⟩
      obtain ⟨s_23, hs_23⟩ : ∃ z, SPq I_12 J_13 x = z := ⟨_, rfl⟩
      simp only [hs_21, hs_22, hs_23] at hq_19
      have hQ_24 := hq_19.symm
      have u_25 := fLp_eq (rd := fAll 5 s_21) (k := 17) (i := v_18) (r := v_17) (t := s_22) (s := s_23) (rv_18)
      refine g_iload C 5 dX7_readCond_12 rfl ?_
      refine g_bipush C (v := 20) dX7_readCond_14 (by decide) ?_
      refine g_icmp_ge C (tgt := 71) dX7_readCond_16 (by decide) (fun h_26 => ?_) (fun h_26 => ?_)
      · skip
        have r_27 := le_r (h_26) rc_20 rv_18
        refine g_iload C 4 dX7_readCond_71 rfl ?_
        exact g_zret (ty := .boolean) (r := v_17) B K rfl (nar_z (rv_17)) ⟨hU_14, hF_15, hG_16, rv_17, (by (try simp only [h_26, if_true, if_false, bqM_pnm, bqM_par, bqM_dnm, bqM_persons, bqM_dishes, bqM_law, bqM_dogs, TB_.w_pnm, TB_.w_par, TB_.w_dnm, TB_.w_persons, TB_.w_dishes, TB_.w_law, TB_.w_dogs, sqM_sl, sqM_so, SP_.w_sl, SP_.w_so, tqM_by_, tqM_wd, tqM_tk, tqM_pl, tqM_vl, tqM_len, tqM_n, tqM_at_, tqM_token, tqM_place, tqM_value, tqM_fault, tqM_fat, TP_.w_by_, TP_.w_wd, TP_.w_tk, TP_.w_pl, TP_.w_vl, TP_.w_len, TP_.w_n, TP_.w_at_, TP_.w_token, TP_.w_place, TP_.w_value, TP_.w_fault, TP_.w_fat] at hQ_24); (try simp only [h_26, if_true, if_false, bqM_pnm, bqM_par, bqM_dnm, bqM_persons, bqM_dishes, bqM_law, bqM_dogs, TB_.w_pnm, TB_.w_par, TB_.w_dnm, TB_.w_persons, TB_.w_dishes, TB_.w_law, TB_.w_dogs, sqM_sl, sqM_so, SP_.w_sl, SP_.w_so, tqM_by_, tqM_wd, tqM_tk, tqM_pl, tqM_vl, tqM_len, tqM_n, tqM_at_, tqM_token, tqM_place, tqM_value, tqM_fault, tqM_fat, TP_.w_by_, TP_.w_wd, TP_.w_tk, TP_.w_pl, TP_.w_vl, TP_.w_len, TP_.w_n, TP_.w_at_, TP_.w_token, TP_.w_place, TP_.w_value, TP_.w_fault, TP_.w_fat] at u_25); simp only [ebqa1, hs_21, hs_4, etqa0, hs_22, hs_10, esqx, hs_23, hs_11, hQ_24, u_25, h_26, if_true, if_false, bqM_pnm, bqM_par, bqM_dnm, bqM_persons, bqM_dishes, bqM_law, bqM_dogs, TB_.w_pnm, TB_.w_par, TB_.w_dnm, TB_.w_persons, TB_.w_dishes, TB_.w_law, TB_.w_dogs, sqM_sl, sqM_so, SP_.w_sl, SP_.w_so, tqM_by_, tqM_wd, tqM_tk, tqM_pl, tqM_vl, tqM_len, tqM_n, tqM_at_, tqM_token, tqM_place, tqM_value, tqM_fault, tqM_fat, TP_.w_by_, TP_.w_wd, TP_.w_tk, TP_.w_pl, TP_.w_vl, TP_.w_len, TP_.w_n, TP_.w_at_, TP_.w_token, TP_.w_place, TP_.w_value, TP_.w_fault, TP_.w_fat])⟩ dX7_readCond_73
      · skip
        have r_28 := lt_l (hi := 19) (nle h_26) rv_18 rc_20 (by decide)
        refine g_iload C 4 dX7_readCond_19 rfl ?_
        refine g_if_eq C (tgt := 71) dX7_readCond_21 (by decide) (fun h_29 => ?_) (fun h_29 => ?_)
        · skip
          have r_30 := (⟨(rv_17).1, (eq_rg (h_29) rc_0).2⟩ : Rg 0 0 v_17)
          refine g_iload C 4 dX7_readCond_71 rfl ?_
          exact g_zret (ty := .boolean) (r := v_17) B K rfl (nar_z (rg_w r_30 (by decide) (by decide))) ⟨hU_14, hF_15, hG_16, rg_w r_30 (by decide) (by decide), (by (try simp only [h_26, (nle h_26), (eq_true h_29), if_true, if_false, bqM_pnm, bqM_par, bqM_dnm, bqM_persons, bqM_dishes, bqM_law, bqM_dogs, TB_.w_pnm, TB_.w_par, TB_.w_dnm, TB_.w_persons, TB_.w_dishes, TB_.w_law, TB_.w_dogs, sqM_sl, sqM_so, SP_.w_sl, SP_.w_so, tqM_by_, tqM_wd, tqM_tk, tqM_pl, tqM_vl, tqM_len, tqM_n, tqM_at_, tqM_token, tqM_place, tqM_value, tqM_fault, tqM_fat, TP_.w_by_, TP_.w_wd, TP_.w_tk, TP_.w_pl, TP_.w_vl, TP_.w_len, TP_.w_n, TP_.w_at_, TP_.w_token, TP_.w_place, TP_.w_value, TP_.w_fault, TP_.w_fat] at hQ_24); (try simp only [h_26, (nle h_26), (eq_true h_29), if_true, if_false, bqM_pnm, bqM_par, bqM_dnm, bqM_persons, bqM_dishes, bqM_law, bqM_dogs, TB_.w_pnm, TB_.w_par, TB_.w_dnm, TB_.w_persons, TB_.w_dishes, TB_.w_law, TB_.w_dogs, sqM_sl, sqM_so, SP_.w_sl, SP_.w_so, tqM_by_, tqM_wd, tqM_tk, tqM_pl, tqM_vl, tqM_len, tqM_n, tqM_at_, tqM_token, tqM_place, tqM_value, tqM_fault, tqM_fat, TP_.w_by_, TP_.w_wd, TP_.w_tk, TP_.w_pl, TP_.w_vl, TP_.w_len, TP_.w_n, TP_.w_at_, TP_.w_token, TP_.w_place, TP_.w_value, TP_.w_fault, TP_.w_fat] at u_25); simp only [ebqa1, hs_21, hs_4, etqa0, hs_22, hs_10, esqx, hs_23, hs_11, hQ_24, u_25, h_26, (nle h_26), (eq_true h_29), if_true, if_false, bqM_pnm, bqM_par, bqM_dnm, bqM_persons, bqM_dishes, bqM_law, bqM_dogs, TB_.w_pnm, TB_.w_par, TB_.w_dnm, TB_.w_persons, TB_.w_dishes, TB_.w_law, TB_.w_dogs, sqM_sl, sqM_so, SP_.w_sl, SP_.w_so, tqM_by_, tqM_wd, tqM_tk, tqM_pl, tqM_vl, tqM_len, tqM_n, tqM_at_, tqM_token, tqM_place, tqM_value, tqM_fault, tqM_fat, TP_.w_by_, TP_.w_wd, TP_.w_tk, TP_.w_pl, TP_.w_vl, TP_.w_len, TP_.w_n, TP_.w_at_, TP_.w_token, TP_.w_place, TP_.w_value, TP_.w_fault, TP_.w_fat])⟩ dX7_readCond_73
        · skip
          have n_31 : ¬ v_17 = 0 := h_29
          have r_32 := ne_lo (lo := 1) n_31 rv_17 rc_0 rfl (by decide)
          refine g_aload_n C 1 dX7_readCond_24 rfl rfl ?_
          obtain ⟨x_33, hx_33, rx_33⟩ := ex_get (I := I_12) (a := a0) (j := 8) (lo := (-2147483648)) (hi := 2147483647) hU_14.1 hLa0 (ro_o hka0 (by decide)) rfl
          have f_34 : s_22.token = x_33 := (congrArg TP_.token hs_22).symm.trans hx_33
          refine g_getI C K hLa0 hka0 f_7_57 (v := x_33) hx_33 dX7_readCond_25 ?_
          refine g_bipush C (v := 17) dX7_readCond_28 (by decide) ?_
          refine g_icmp_ne C (tgt := 71) dX7_readCond_30 (by decide) (fun h_35 => ?_) (fun h_35 => ?_)
          · skip
            have n_36 : ¬ x_33 = 17 := h_35
            refine g_iload C 4 dX7_readCond_71 rfl ?_
            exact g_zret (ty := .boolean) (r := v_17) B K rfl (nar_z (rg_w r_32 (by decide) (by decide))) ⟨hU_14, hF_15, hG_16, rg_w r_32 (by decide) (by decide), (by (try simp only [h_26, (nle h_26), h_29, hx_33, f_34, h_35, if_true, if_false, bqM_pnm, bqM_par, bqM_dnm, bqM_persons, bqM_dishes, bqM_law, bqM_dogs, TB_.w_pnm, TB_.w_par, TB_.w_dnm, TB_.w_persons, TB_.w_dishes, TB_.w_law, TB_.w_dogs, sqM_sl, sqM_so, SP_.w_sl, SP_.w_so, tqM_by_, tqM_wd, tqM_tk, tqM_pl, tqM_vl, tqM_len, tqM_n, tqM_at_, tqM_token, tqM_place, tqM_value, tqM_fault, tqM_fat, TP_.w_by_, TP_.w_wd, TP_.w_tk, TP_.w_pl, TP_.w_vl, TP_.w_len, TP_.w_n, TP_.w_at_, TP_.w_token, TP_.w_place, TP_.w_value, TP_.w_fault, TP_.w_fat] at hQ_24); (try simp only [h_26, (nle h_26), h_29, hx_33, f_34, h_35, if_true, if_false, bqM_pnm, bqM_par, bqM_dnm, bqM_persons, bqM_dishes, bqM_law, bqM_dogs, TB_.w_pnm, TB_.w_par, TB_.w_dnm, TB_.w_persons, TB_.w_dishes, TB_.w_law, TB_.w_dogs, sqM_sl, sqM_so, SP_.w_sl, SP_.w_so, tqM_by_, tqM_wd, tqM_tk, tqM_pl, tqM_vl, tqM_len, tqM_n, tqM_at_, tqM_token, tqM_place, tqM_value, tqM_fault, tqM_fat, TP_.w_by_, TP_.w_wd, TP_.w_tk, TP_.w_pl, TP_.w_vl, TP_.w_len, TP_.w_n, TP_.w_at_, TP_.w_token, TP_.w_place, TP_.w_value, TP_.w_fault, TP_.w_fat] at u_25); simp only [ebqa1, hs_21, hs_4, etqa0, hs_22, hs_10, esqx, hs_23, hs_11, hQ_24, u_25, h_26, (nle h_26), h_29, hx_33, f_34, h_35, if_true, if_false, bqM_pnm, bqM_par, bqM_dnm, bqM_persons, bqM_dishes, bqM_law, bqM_dogs, TB_.w_pnm, TB_.w_par, TB_.w_dnm, TB_.w_persons, TB_.w_dishes, TB_.w_law, TB_.w_dogs, sqM_sl, sqM_so, SP_.w_sl, SP_.w_so, tqM_by_, tqM_wd, tqM_tk, tqM_pl, tqM_vl, tqM_len, tqM_n, tqM_at_, tqM_token, tqM_place, tqM_value, tqM_fault, tqM_fat, TP_.w_by_, TP_.w_wd, TP_.w_tk, TP_.w_pl, TP_.w_vl, TP_.w_len, TP_.w_n, TP_.w_at_, TP_.w_token, TP_.w_place, TP_.w_value, TP_.w_fault, TP_.w_fat])⟩ dX7_readCond_73
          · skip
            have r_37 := (⟨(eq_rg (h_35) rc_17).1, (eq_rg (h_35) rc_17).2⟩ : Rg 17 17 x_33)
            refine g_aload_n C 1 dX7_readCond_33 rfl rfl ?_
            refine g_callVV C K (c_X10_advance W9 hLa0 hka0   hU_14) hLa0 hka0 (by decide) rfl v_7_60 rfl ⟨rfl, rfl⟩ ⟨Nat.le_of_ble_eq_true rfl, Nat.le_of_ble_eq_true rfl⟩ (Nat.le_of_ble_eq_true rfl) ⟨Nat.le_of_ble_eq_true rfl, Nat.le_of_ble_eq_true rfl⟩ dX7_readCond_34 rfl (st := []) (fun I_39 J_40 h_41 => ?_)
            obtain ⟨hUI_39, hFI_39, hGJ_40, fx_38⟩ := h_41
            have hF_42 := fq_tr hF_15 hFI_39 (by decide)
            have hG_43 := fq_tr hG_16 hGJ_40 (by decide)
            obtain ⟨s_45, hs_45⟩ : ∃ z, TPq I_39 J_40 a0 b_5 b_6 b_7 b_8 b_9 = z := ⟨_, rfl⟩
            have c_44 : fAdvance (s_22) = s_45 := by have q := fx_38; simp only [etqa0, hs_22, hs_45] at q; exact q.symm
            have hs_46 : TBq I_39 J_40 a1 b_1 b_2 b_3 = s_21 := (bq_fq wbqa1 hFI_39 hGJ_40 (by decide) (by decide)).trans hs_21
            have hs_47 : SPq I_39 J_40 x = s_23 := (sq_fq wsqx hFI_39 hGJ_40 (by decide) (by decide)).trans hs_23
            refine g_aload_n C 0 dX7_readCond_37 rfl rfl ?_
            refine g_aload_n C 1 dX7_readCond_38 rfl rfl ?_
            refine g_aload_n C 2 dX7_readCond_39 rfl rfl ?_
            refine g_iload_n C 3 dX7_readCond_40 rfl rfl ?_
            refine g_callVI C K (c_X7_readAll_4 W9 hLx hkx hLa0 hka0 hLa1 hka1 a2 (ra2) hUI_39) hLx hkx (by decide) rfl v_7_54 rfl ⟨rfl, rfl⟩ ⟨Nat.le_of_ble_eq_true rfl, Nat.le_of_ble_eq_true rfl⟩ (Nat.le_of_ble_eq_true rfl) ⟨Nat.le_of_ble_eq_true rfl, Nat.le_of_ble_eq_true rfl⟩ dX7_readCond_41 rfl (st := []) (fun x_48 I_49 J_50 h_51 => ?_)
            obtain ⟨hUI_49, hFI_49, hGJ_50, rx_48, fx_48⟩ := h_51
            have hF_52 := fq_tr hF_42 hFI_49 (by decide)
            have hG_53 := fq_tr hG_43 hGJ_50 (by decide)
            obtain ⟨s_55, hs_55⟩ : ∃ z, TPq I_49 J_50 a0 b_5 b_6 b_7 b_8 b_9 = z := ⟨_, rfl⟩
            obtain ⟨s_56, hs_56⟩ : ∃ z, SPq I_49 J_50 x = z := ⟨_, rfl⟩
            have c_54 : fAll 5 (s_21) (s_45) (s_23) = (x_48, s_55, s_56) := by have q := fx_48; simp only [ebqa1, etqa0, esqx, hs_46, hs_45, hs_47, hs_55, hs_56] at q; exact q.symm
            have hs_57 : TBq I_49 J_50 a1 b_1 b_2 b_3 = s_21 := (bq_fq wbqa1 hFI_49 hGJ_50 (by decide) (by decide)).trans hs_46
            refine g_if_eq C (tgt := 62) dX7_readCond_44 (by decide) (fun h_58 => ?_) (fun h_58 => ?_)
            · skip
              have r_59 := (⟨(rx_48).1, (eq_rg (h_58) rc_0).2⟩ : Rg 0 0 x_48)
              refine g_iconst C (v := 0) dX7_readCond_62 (by decide) ?_
              refine g_istore C dX7_readCond_63 (by decide) (lo2 := [(4, .int 0), (0, .ref x), (1, .ref a0), (2, .ref a1), (3, .int a2), (5, .int v_18)]) rfl ?_
              obtain ⟨x_60, hx_60, rx_60, tx_60⟩ := ex_add (y := 1) 1 20 r_28 rc_1 (by decide) (by decide) (by decide) (by decide)
              refine g_iinc C dX7_readCond_65 (k := 5) (v := x_60) rfl hx_60 (by decide) (lo2 := [(5, .int x_60), (4, .int 0), (0, .ref x), (1, .ref a0), (2, .ref a1), (3, .int a2)]) rfl ?_
              refine g_goto C (tgt := 12) dX7_readCond_68 (by decide) ?_
              refine g_lo (is := [2, 3, 4, 5, 1, 0]) (lo2 := [(0, .ref x), (1, .ref a0), (2, .ref a1), (3, .int a2), (4, .int 0), (5, .int x_60)]) rfl ?_
              exact ih_12 I_49 J_50 hUI_49 hF_52 hG_53 0 (rg_w rc_0 (by decide) (by decide)) x_60 (rg_w rx_60 (by decide) (by decide)) (by (try simp only [h_26, (nle h_26), h_29, hx_33, f_34, (eq_true h_35), c_44, c_54, (eq_true h_58), hx_60, if_true, if_false, bqM_pnm, bqM_par, bqM_dnm, bqM_persons, bqM_dishes, bqM_law, bqM_dogs, TB_.w_pnm, TB_.w_par, TB_.w_dnm, TB_.w_persons, TB_.w_dishes, TB_.w_law, TB_.w_dogs, sqM_sl, sqM_so, SP_.w_sl, SP_.w_so, tqM_by_, tqM_wd, tqM_tk, tqM_pl, tqM_vl, tqM_len, tqM_n, tqM_at_, tqM_token, tqM_place, tqM_value, tqM_fault, tqM_fat, TP_.w_by_, TP_.w_wd, TP_.w_tk, TP_.w_pl, TP_.w_vl, TP_.w_len, TP_.w_n, TP_.w_at_, TP_.w_token, TP_.w_place, TP_.w_value, TP_.w_fault, TP_.w_fat] at hQ_24); (try simp only [h_26, (nle h_26), h_29, hx_33, f_34, (eq_true h_35), c_44, c_54, (eq_true h_58), hx_60, if_true, if_false, bqM_pnm, bqM_par, bqM_dnm, bqM_persons, bqM_dishes, bqM_law, bqM_dogs, TB_.w_pnm, TB_.w_par, TB_.w_dnm, TB_.w_persons, TB_.w_dishes, TB_.w_law, TB_.w_dogs, sqM_sl, sqM_so, SP_.w_sl, SP_.w_so, tqM_by_, tqM_wd, tqM_tk, tqM_pl, tqM_vl, tqM_len, tqM_n, tqM_at_, tqM_token, tqM_place, tqM_value, tqM_fault, tqM_fat, TP_.w_by_, TP_.w_wd, TP_.w_tk, TP_.w_pl, TP_.w_vl, TP_.w_len, TP_.w_n, TP_.w_at_, TP_.w_token, TP_.w_place, TP_.w_value, TP_.w_fault, TP_.w_fat] at u_25); simp only [ebqa1, hs_57, hs_4, etqa0, hs_55, hs_10, esqx, hs_56, hs_11, hQ_24, u_25, h_26, (nle h_26), h_29, hx_33, f_34, (eq_true h_35), c_44, c_54, (eq_true h_58), hx_60, if_true, if_false, bqM_pnm, bqM_par, bqM_dnm, bqM_persons, bqM_dishes, bqM_law, bqM_dogs, TB_.w_pnm, TB_.w_par, TB_.w_dnm, TB_.w_persons, TB_.w_dishes, TB_.w_law, TB_.w_dogs, sqM_sl, sqM_so, SP_.w_sl, SP_.w_so, tqM_by_, tqM_wd, tqM_tk, tqM_pl, tqM_vl, tqM_len, tqM_n, tqM_at_, tqM_token, tqM_place, tqM_value, tqM_fault, tqM_fat, TP_.w_by_, TP_.w_wd, TP_.w_tk, TP_.w_pl, TP_.w_vl, TP_.w_len, TP_.w_n, TP_.w_at_, TP_.w_token, TP_.w_place, TP_.w_value, TP_.w_fault, TP_.w_fat]) (ms_1 hm_20 (ti_k tx_60 rc_1) (by decide))
            · skip
              have n_61 : ¬ x_48 = 0 := h_58
              have r_62 := ne_lo (lo := 1) n_61 rx_48 rc_0 rfl (by decide)
              refine g_aload_n C 0 dX7_readCond_47 rfl rfl ?_
              refine g_bipush C (v := 17) dX7_readCond_48 (by decide) ?_
              refine g_iconst C (v := 0) dX7_readCond_50 (by decide) ?_
              refine g_iconst C (v := 0) dX7_readCond_51 (by decide) ?_
              refine g_callVI C K (c_X7_addStep W9 hLx hkx 17 0 0 (rg_w rc_0 (by decide) (by decide)) hUI_49  (fun q => absurd q (by decide))) hLx hkx (by decide) rfl v_7_63 rfl ⟨rfl, rfl⟩ ⟨Nat.le_of_ble_eq_true rfl, Nat.le_of_ble_eq_true rfl⟩ (Nat.le_of_ble_eq_true rfl) ⟨Nat.le_of_ble_eq_true rfl, Nat.le_of_ble_eq_true rfl⟩ dX7_readCond_52 rfl (st := []) (fun x_63 I_64 J_65 h_66 => ?_)
              obtain ⟨hUI_64, hFI_64, hGJ_65, rx_63, fx_63⟩ := h_66
              have hF_67 := fq_tr hF_52 hFI_64 (by decide)
              have hG_68 := fq_tr hG_53 hGJ_65 (by decide)
              obtain ⟨s_70, hs_70⟩ : ∃ z, SPq I_64 J_65 x = z := ⟨_, rfl⟩
              have c_69 : fAddStep (s_56) = (x_63, s_70) := by have q := fx_63; simp only [esqx, hs_56, hs_70] at q; exact q.symm
              have hs_71 : TBq I_64 J_65 a1 b_1 b_2 b_3 = s_21 := (bq_fq wbqa1 hFI_64 hGJ_65 (by decide) (by decide)).trans hs_57
              have hs_72 : TPq I_64 J_65 a0 b_5 b_6 b_7 b_8 b_9 = s_55 := (tq_fq wtqa0 hFI_64 hGJ_65 (by decide) (by decide)).trans hs_55
              refine g_if_eq C (tgt := 62) dX7_readCond_55 (by decide) (fun h_73 => ?_) (fun h_73 => ?_)
              · skip
                have r_74 := (⟨(rx_63).1, (eq_rg (h_73) rc_0).2⟩ : Rg 0 0 x_63)
                refine g_iconst C (v := 0) dX7_readCond_62 (by decide) ?_
                refine g_istore C dX7_readCond_63 (by decide) (lo2 := [(4, .int 0), (0, .ref x), (1, .ref a0), (2, .ref a1), (3, .int a2), (5, .int v_18)]) rfl ?_
                obtain ⟨x_75, hx_75, rx_75, tx_75⟩ := ex_add (y := 1) 1 20 r_28 rc_1 (by decide) (by decide) (by decide) (by decide)
                refine g_iinc C dX7_readCond_65 (k := 5) (v := x_75) rfl hx_75 (by decide) (lo2 := [(5, .int x_75), (4, .int 0), (0, .ref x), (1, .ref a0), (2, .ref a1), (3, .int a2)]) rfl ?_
                refine g_goto C (tgt := 12) dX7_readCond_68 (by decide) ?_
                refine g_lo (is := [2, 3, 4, 5, 1, 0]) (lo2 := [(0, .ref x), (1, .ref a0), (2, .ref a1), (3, .int a2), (4, .int 0), (5, .int x_75)]) rfl ?_
                exact ih_12 I_64 J_65 hUI_64 hF_67 hG_68 0 (rg_w rc_0 (by decide) (by decide)) x_75 (rg_w rx_75 (by decide) (by decide)) (by (try simp only [h_26, (nle h_26), h_29, hx_33, f_34, (eq_true h_35), c_44, c_54, h_58, c_69, (eq_true h_73), hx_75, if_true, if_false, bqM_pnm, bqM_par, bqM_dnm, bqM_persons, bqM_dishes, bqM_law, bqM_dogs, TB_.w_pnm, TB_.w_par, TB_.w_dnm, TB_.w_persons, TB_.w_dishes, TB_.w_law, TB_.w_dogs, sqM_sl, sqM_so, SP_.w_sl, SP_.w_so, tqM_by_, tqM_wd, tqM_tk, tqM_pl, tqM_vl, tqM_len, tqM_n, tqM_at_, tqM_token, tqM_place, tqM_value, tqM_fault, tqM_fat, TP_.w_by_, TP_.w_wd, TP_.w_tk, TP_.w_pl, TP_.w_vl, TP_.w_len, TP_.w_n, TP_.w_at_, TP_.w_token, TP_.w_place, TP_.w_value, TP_.w_fault, TP_.w_fat] at hQ_24); (try simp only [h_26, (nle h_26), h_29, hx_33, f_34, (eq_true h_35), c_44, c_54, h_58, c_69, (eq_true h_73), hx_75, if_true, if_false, bqM_pnm, bqM_par, bqM_dnm, bqM_persons, bqM_dishes, bqM_law, bqM_dogs, TB_.w_pnm, TB_.w_par, TB_.w_dnm, TB_.w_persons, TB_.w_dishes, TB_.w_law, TB_.w_dogs, sqM_sl, sqM_so, SP_.w_sl, SP_.w_so, tqM_by_, tqM_wd, tqM_tk, tqM_pl, tqM_vl, tqM_len, tqM_n, tqM_at_, tqM_token, tqM_place, tqM_value, tqM_fault, tqM_fat, TP_.w_by_, TP_.w_wd, TP_.w_tk, TP_.w_pl, TP_.w_vl, TP_.w_len, TP_.w_n, TP_.w_at_, TP_.w_token, TP_.w_place, TP_.w_value, TP_.w_fault, TP_.w_fat] at u_25); simp only [ebqa1, hs_71, hs_4, etqa0, hs_72, hs_10, esqx, hs_70, hs_11, hQ_24, u_25, h_26, (nle h_26), h_29, hx_33, f_34, (eq_true h_35), c_44, c_54, h_58, c_69, (eq_true h_73), hx_75, if_true, if_false, bqM_pnm, bqM_par, bqM_dnm, bqM_persons, bqM_dishes, bqM_law, bqM_dogs, TB_.w_pnm, TB_.w_par, TB_.w_dnm, TB_.w_persons, TB_.w_dishes, TB_.w_law, TB_.w_dogs, sqM_sl, sqM_so, SP_.w_sl, SP_.w_so, tqM_by_, tqM_wd, tqM_tk, tqM_pl, tqM_vl, tqM_len, tqM_n, tqM_at_, tqM_token, tqM_place, tqM_value, tqM_fault, tqM_fat, TP_.w_by_, TP_.w_wd, TP_.w_tk, TP_.w_pl, TP_.w_vl, TP_.w_len, TP_.w_n, TP_.w_at_, TP_.w_token, TP_.w_place, TP_.w_value, TP_.w_fault, TP_.w_fat]) (ms_1 hm_20 (ti_k tx_75 rc_1) (by decide))
              · skip
                have n_76 : ¬ x_63 = 0 := h_73
                have r_77 := ne_lo (lo := 1) n_76 rx_63 rc_0 rfl (by decide)
                refine g_iconst C (v := 1) dX7_readCond_58 (by decide) ?_
                refine g_goto C (tgt := 63) dX7_readCond_59 (by decide) ?_
                refine g_istore C dX7_readCond_63 (by decide) (lo2 := [(4, .int 1), (0, .ref x), (1, .ref a0), (2, .ref a1), (3, .int a2), (5, .int v_18)]) rfl ?_
                obtain ⟨x_78, hx_78, rx_78, tx_78⟩ := ex_add (y := 1) 1 20 r_28 rc_1 (by decide) (by decide) (by decide) (by decide)
                refine g_iinc C dX7_readCond_65 (k := 5) (v := x_78) rfl hx_78 (by decide) (lo2 := [(5, .int x_78), (4, .int 1), (0, .ref x), (1, .ref a0), (2, .ref a1), (3, .int a2)]) rfl ?_
                refine g_goto C (tgt := 12) dX7_readCond_68 (by decide) ?_
                refine g_lo (is := [2, 3, 4, 5, 1, 0]) (lo2 := [(0, .ref x), (1, .ref a0), (2, .ref a1), (3, .int a2), (4, .int 1), (5, .int x_78)]) rfl ?_
                exact ih_12 I_64 J_65 hUI_64 hF_67 hG_68 1 (rg_w rc_1 (by decide) (by decide)) x_78 (rg_w rx_78 (by decide) (by decide)) (by (try simp only [h_26, (nle h_26), h_29, hx_33, f_34, (eq_true h_35), c_44, c_54, h_58, c_69, h_73, hx_78, if_true, if_false, bqM_pnm, bqM_par, bqM_dnm, bqM_persons, bqM_dishes, bqM_law, bqM_dogs, TB_.w_pnm, TB_.w_par, TB_.w_dnm, TB_.w_persons, TB_.w_dishes, TB_.w_law, TB_.w_dogs, sqM_sl, sqM_so, SP_.w_sl, SP_.w_so, tqM_by_, tqM_wd, tqM_tk, tqM_pl, tqM_vl, tqM_len, tqM_n, tqM_at_, tqM_token, tqM_place, tqM_value, tqM_fault, tqM_fat, TP_.w_by_, TP_.w_wd, TP_.w_tk, TP_.w_pl, TP_.w_vl, TP_.w_len, TP_.w_n, TP_.w_at_, TP_.w_token, TP_.w_place, TP_.w_value, TP_.w_fault, TP_.w_fat] at hQ_24); (try simp only [h_26, (nle h_26), h_29, hx_33, f_34, (eq_true h_35), c_44, c_54, h_58, c_69, h_73, hx_78, if_true, if_false, bqM_pnm, bqM_par, bqM_dnm, bqM_persons, bqM_dishes, bqM_law, bqM_dogs, TB_.w_pnm, TB_.w_par, TB_.w_dnm, TB_.w_persons, TB_.w_dishes, TB_.w_law, TB_.w_dogs, sqM_sl, sqM_so, SP_.w_sl, SP_.w_so, tqM_by_, tqM_wd, tqM_tk, tqM_pl, tqM_vl, tqM_len, tqM_n, tqM_at_, tqM_token, tqM_place, tqM_value, tqM_fault, tqM_fat, TP_.w_by_, TP_.w_wd, TP_.w_tk, TP_.w_pl, TP_.w_vl, TP_.w_len, TP_.w_n, TP_.w_at_, TP_.w_token, TP_.w_place, TP_.w_value, TP_.w_fault, TP_.w_fat] at u_25); simp only [ebqa1, hs_71, hs_4, etqa0, hs_72, hs_10, esqx, hs_70, hs_11, hQ_24, u_25, h_26, (nle h_26), h_29, hx_33, f_34, (eq_true h_35), c_44, c_54, h_58, c_69, h_73, hx_78, if_true, if_false, bqM_pnm, bqM_par, bqM_dnm, bqM_persons, bqM_dishes, bqM_law, bqM_dogs, TB_.w_pnm, TB_.w_par, TB_.w_dnm, TB_.w_persons, TB_.w_dishes, TB_.w_law, TB_.w_dogs, sqM_sl, sqM_so, SP_.w_sl, SP_.w_so, tqM_by_, tqM_wd, tqM_tk, tqM_pl, tqM_vl, tqM_len, tqM_n, tqM_at_, tqM_token, tqM_place, tqM_value, tqM_fault, tqM_fat, TP_.w_by_, TP_.w_wd, TP_.w_tk, TP_.w_pl, TP_.w_vl, TP_.w_len, TP_.w_n, TP_.w_at_, TP_.w_token, TP_.w_place, TP_.w_value, TP_.w_fault, TP_.w_fat]) (ms_1 hm_20 (ti_k tx_78 rc_1) (by decide))
  refine g_aload_n C 0 dX7_readCond_0 rfl rfl ?_
  refine g_aload_n C 1 dX7_readCond_1 rfl rfl ?_
  refine g_aload_n C 2 dX7_readCond_2 rfl rfl ?_
  refine g_iload_n C 3 dX7_readCond_3 rfl rfl ?_
  refine g_callVI C K (c_X7_readAll_4 W9 hLx hkx hLa0 hka0 hLa1 hka1 a2 (ra2) hU) hLx hkx (by decide) rfl v_7_54 rfl ⟨rfl, rfl⟩ ⟨Nat.le_of_ble_eq_true rfl, Nat.le_of_ble_eq_true rfl⟩ (Nat.le_of_ble_eq_true rfl) ⟨Nat.le_of_ble_eq_true rfl, Nat.le_of_ble_eq_true rfl⟩ dX7_readCond_4 rfl (st := []) (fun x_79 I_80 J_81 h_82 => ?_)
  obtain ⟨hUI_80, hFI_80, hGJ_81, rx_79, fx_79⟩ := h_82
  have hF_83 := fq_tr hF hFI_80 (by decide)
  have hG_84 := fq_tr hG hGJ_81 (by decide)
  obtain ⟨s_86, hs_86⟩ : ∃ z, TPq I_80 J_81 a0 b_5 b_6 b_7 b_8 b_9 = z := ⟨_, rfl⟩
  obtain ⟨s_87, hs_87⟩ : ∃ z, SPq I_80 J_81 x = z := ⟨_, rfl⟩
  have c_85 : fAll 5 (s_4) (s_10) (s_11) = (x_79, s_86, s_87) := by have q := fx_79; simp only [ebqa1, etqa0, esqx, hs_4, hs_10, hs_11, hs_86, hs_87] at q; exact q.symm
  have hs_88 : TBq I_80 J_81 a1 b_1 b_2 b_3 = s_4 := (bq_fq wbqa1 hFI_80 hGJ_81 (by decide) (by decide)).trans hs_4
  refine g_istore C dX7_readCond_7 (by decide) (lo2 := [(4, .int x_79), (0, .ref x), (1, .ref a0), (2, .ref a1), (3, .int a2)]) rfl ?_
  refine g_iconst C (v := 0) dX7_readCond_9 (by decide) ?_
  refine g_istore C dX7_readCond_10 (by decide) (lo2 := [(5, .int 0), (4, .int x_79), (0, .ref x), (1, .ref a0), (2, .ref a1), (3, .int a2)]) rfl ?_
  refine g_lo (is := [2, 3, 4, 5, 1, 0]) (lo2 := [(0, .ref x), (1, .ref a0), (2, .ref a1), (3, .int a2), (4, .int x_79), (5, .int 0)]) rfl ?_
  exact l_12 21 I_80 J_81 hUI_80 hF_83 hG_84 x_79 (rx_79) 0 (rg_w rc_0 (by decide) (by decide)) (by simp only [fCond, ebqa1, hs_88, hs_4, etqa0, hs_86, hs_10, esqx, hs_87, hs_11, c_85, if_true, if_false, bqM_pnm, bqM_par, bqM_dnm, bqM_persons, bqM_dishes, bqM_law, bqM_dogs, TB_.w_pnm, TB_.w_par, TB_.w_dnm, TB_.w_persons, TB_.w_dishes, TB_.w_law, TB_.w_dogs, sqM_sl, sqM_so, SP_.w_sl, SP_.w_so, tqM_by_, tqM_wd, tqM_tk, tqM_pl, tqM_vl, tqM_len, tqM_n, tqM_at_, tqM_token, tqM_place, tqM_value, tqM_fault, tqM_fat, TP_.w_by_, TP_.w_wd, TP_.w_tk, TP_.w_pl, TP_.w_vl, TP_.w_len, TP_.w_n, TP_.w_at_, TP_.w_token, TP_.w_place, TP_.w_value, TP_.w_fault, TP_.w_fat]) (ms_s (a := 0) (b := 20) (N := 21) (rg_w rc_0 (by decide) (by decide)) (by decide))
set_option maxRecDepth 100000 in
set_option maxHeartbeats 8000000 in
theorem c_X7_readOne_3 {l : Launch} {D : va_G} {cy : Nat → ClassId} {L : List Nat} {κ ln : Nat → Nat} {R : Nat → Nat → Option Nat} {I : Nat → Nat → Int32} {J : Nat → Nat → Int64} {ow : Nat → Nat × Nat} (W9 : ∀ a ∈ L, Shp L κ ln R ow a) {x : Nat} (hLx : x ∈ L) (hkx : κ x = 7) {a0 : Nat} (hLa0 : a0 ∈ L) (hka0 : κ a0 = 10) {a1 : Nat} (hLa1 : a1 ∈ L) (hka1 : κ a1 = 8) (a2 : Int32) (ra2 : Rg 3 3 a2) (hU : Iv L κ R ow I) : CtI l yX7_readOne cX7_readOne 5 (some .boolean) { frames := 19, cells := 0, slots := 0, locals := 465 } D cy L κ ln R I J [.ref x, .ref a0, .ref a1, .int a2] (fun r I2 J2 => Iv L κ R ow I2 ∧ Fq L κ ow [704, 705, 1007, 1008, 1009, 1011, 1012, 52000, 52100, 52200] I I2 ∧ Fq L κ ow [1010] J J2 ∧ Rg 0 1 r ∧ ((r, TPf R I2 J2 a0, SPf R I2 J2 x) = fOne 6 (TBf R I J a1) (TPf R I J a0) (SPf R I J x))) := by
  refine CtI.of (by decide +kernel) (Nat.le_of_ble_eq_true rfl) ?_
  intro p e s m below meth c B K
  have C := B.1
  have hF : Fq L κ ow [704, 705, 1007, 1008, 1009, 1011, 1012, 52000, 52100, 52200] I I := fq_rf
  have hG : Fq L κ ow [1010] J J := fq_rf
  obtain ⟨b_1, hb_1, hb_1L, hb_1k, hb_1n, hb_1o⟩ := shp_a (W9 a1 hLa1) hka1 0 15 7 rfl (by decide)
  obtain ⟨b_2, hb_2, hb_2L, hb_2k, hb_2n, hb_2o⟩ := shp_a (W9 a1 hLa1) hka1 2 14 7 rfl (by decide)
  obtain ⟨b_3, hb_3, hb_3L, hb_3k, hb_3n, hb_3o⟩ := shp_a (W9 a1 hLa1) hka1 3 15 6 rfl (by decide)
  have ebqa1 : ∀ I J, TBf R I J a1 = TBq I J a1 b_1 b_2 b_3 := fun I J => by simp only [TBf, rr_, Option.getD_some, hb_1, hb_2, hb_3]
  have wbqa1 : bqw_ L κ ow a1 b_1 b_2 b_3 := ⟨⟨hLa1, hb_1L, hb_2L, hb_3L⟩, ⟨(ro_o hka1 (by decide)), (ro_a hb_1k (by decide) hb_1o hka1 rfl), (ro_a hb_2k (by decide) hb_2o hka1 rfl), (ro_a hb_3k (by decide) hb_3o hka1 rfl)⟩⟩
  obtain ⟨s_4, hs_4⟩ : ∃ z, TBq I J a1 b_1 b_2 b_3 = z := ⟨_, rfl⟩
  obtain ⟨b_5, hb_5, hb_5L, hb_5k, hb_5n, hb_5o⟩ := shp_a (W9 a0 hLa0) hka0 0 13 940 rfl (by decide)
  obtain ⟨b_6, hb_6, hb_6L, hb_6k, hb_6n, hb_6o⟩ := shp_a (W9 a0 hLa0) hka0 1 15 28 rfl (by decide)
  obtain ⟨b_7, hb_7, hb_7L, hb_7k, hb_7n, hb_7o⟩ := shp_a (W9 a0 hLa0) hka0 2 14 901 rfl (by decide)
  obtain ⟨b_8, hb_8, hb_8L, hb_8k, hb_8n, hb_8o⟩ := shp_a (W9 a0 hLa0) hka0 3 14 901 rfl (by decide)
  obtain ⟨b_9, hb_9, hb_9L, hb_9k, hb_9n, hb_9o⟩ := shp_a (W9 a0 hLa0) hka0 4 15 901 rfl (by decide)
  have etqa0 : ∀ I J, TPf R I J a0 = TPq I J a0 b_5 b_6 b_7 b_8 b_9 := fun I J => by simp only [TPf, rr_, Option.getD_some, hb_5, hb_6, hb_7, hb_8, hb_9]
  have wtqa0 : tqw_ L κ ow a0 b_5 b_6 b_7 b_8 b_9 := ⟨⟨hLa0, hb_5L, hb_6L, hb_7L, hb_8L, hb_9L⟩, ⟨(ro_o hka0 (by decide)), (ro_a hb_5k (by decide) hb_5o hka0 rfl), (ro_a hb_6k (by decide) hb_6o hka0 rfl), (ro_a hb_7k (by decide) hb_7o hka0 rfl), (ro_a hb_8k (by decide) hb_8o hka0 rfl), (ro_a hb_9k (by decide) hb_9o hka0 rfl)⟩⟩
  obtain ⟨s_10, hs_10⟩ : ∃ z, TPq I J a0 b_5 b_6 b_7 b_8 b_9 = z := ⟨_, rfl⟩
  have esqx : ∀ I J, SPf R I J x = SPq I J x := fun I J => by simp only [SPf, rr_, Option.getD_some]
  have wsqx : sqw_ L κ ow x := ⟨hLx, (ro_o hkx (by decide))⟩
  obtain ⟨s_11, hs_11⟩ : ∃ z, SPq I J x = z := ⟨_, rfl⟩
  refine g_lo (is := [0, 1, 2, 3]) (lo2 := [(0, .ref x), (1, .ref a0), (2, .ref a1), (3, .int a2)]) rfl ?_
  refine g_aload_n C 1 dX7_readOne_0 rfl rfl ?_
  obtain ⟨x_12, hx_12, rx_12⟩ := ex_get (I := I) (a := a0) (j := 8) (lo := (-2147483648)) (hi := 2147483647) hU.1 hLa0 (ro_o hka0 (by decide)) rfl
  have f_13 : s_10.token = x_12 := (congrArg TP_.token hs_10).symm.trans hx_12
  refine g_getI C K hLa0 hka0 f_7_57 (v := x_12) hx_12 dX7_readOne_1 ?_
  refine g_istore C dX7_readOne_4 (by decide) (lo2 := [(4, .int x_12), (0, .ref x), (1, .ref a0), (2, .ref a1), (3, .int a2)]) rfl ?_
  refine g_iload C 0 dX7_readOne_6 rfl ?_
  refine g_callSI C K (c_X7_beginsOne W9 x_12  hU) s_7_70 rfl ⟨rfl, rfl⟩ ⟨Nat.le_of_ble_eq_true rfl, Nat.le_of_ble_eq_true rfl⟩ (Nat.le_of_ble_eq_true rfl) ⟨Nat.le_of_ble_eq_true rfl, Nat.le_of_ble_eq_true rfl⟩ dX7_readOne_8 rfl (st := []) (fun x_14 I_15 J_16 h_17 => ?_)
  obtain ⟨rfl, rfl, rx_14, fx_14⟩ := h_17
  have c_18 : fBegOne (x_12) = x_14 := fx_14.symm
  refine g_if_ne C (tgt := 20) dX7_readOne_11 (by decide) (fun h_19 => ?_) (fun h_19 => ?_)
  · skip
    have n_20 : ¬ x_14 = 0 := h_19
    have r_21 := ne_lo (lo := 1) n_20 rx_14 rc_0 rfl (by decide)
    refine g_aload_n C 1 dX7_readOne_20 rfl rfl ?_
    obtain ⟨x_22, hx_22, rx_22⟩ := ex_get (I := I) (a := x) (j := 5) (lo := (-2147483648)) (hi := 2147483647) hU.1 hLx (ro_o hkx (by decide)) rfl
    have f_23 : s_11.so = x_22 := (congrArg SP_.so hs_11).symm.trans hx_22
    refine g_getI C K hLx hkx f_7_28 (v := x_22) hx_22 dX7_readOne_21 ?_
    refine g_bipush C (v := 20) dX7_readOne_24 (by decide) ?_
    refine g_icmp_ge C (tgt := 35) dX7_readOne_26 (by decide) (fun h_24 => ?_) (fun h_24 => ?_)
    · skip
      have r_25 := le_r (h_24) rc_20 rx_22
      refine g_aload_n C 2 dX7_readOne_35 rfl rfl ?_
      refine g_iconst C (v := 4) dX7_readOne_36 (by decide) ?_
      refine g_callVI C K (c_X10_fail W9 hLa0 hka0 4 (rg_w rc_4 (by decide) (by decide)) hU) hLa0 hka0 (by decide) rfl v_7_73 rfl ⟨rfl, rfl⟩ ⟨Nat.le_of_ble_eq_true rfl, Nat.le_of_ble_eq_true rfl⟩ (Nat.le_of_ble_eq_true rfl) ⟨Nat.le_of_ble_eq_true rfl, Nat.le_of_ble_eq_true rfl⟩ dX7_readOne_37 rfl (st := []) (fun x_26 I_27 J_28 h_29 => ?_)
      obtain ⟨hUI_27, hFI_27, hGJ_28, rx_26, fx_26⟩ := h_29
      have hF_30 := fq_tr hF hFI_27 (by decide)
      have hG_31 := fq_tr hG hGJ_28 (by decide)
      obtain ⟨s_33, hs_33⟩ : ∃ z, TPq I_27 J_28 a0 b_5 b_6 b_7 b_8 b_9 = z := ⟨_, rfl⟩
      have c_32 : fFail (4) (s_10) = (x_26, s_33) := by have q := fx_26; simp only [etqa0, hs_10, hs_33] at q; exact q.symm
      have hs_34 : TBq I_27 J_28 a1 b_1 b_2 b_3 = s_4 := (bq_fq wbqa1 hFI_27 hGJ_28 (by decide) (by decide)).trans hs_4
      have hs_35 : SPq I_27 J_28 x = s_11 := (sq_fq wsqx hFI_27 hGJ_28 (by decide) (by decide)).trans hs_11
      exact g_zret (ty := .boolean) (r := x_26) B K rfl (nar_z (rg_w rx_26 (by decide) (by decide))) ⟨hUI_27, hF_30, hG_31, rg_w rx_26 (by decide) (by decide), (by simp only [fOne_k6, fAnd2, fFailS, fCmp, ebqa1, hs_34, hs_4, etqa0, hs_33, hs_10, esqx, hs_35, hs_11, hx_12, f_13, c_18, h_19, hx_22, f_23, h_24, c_32, if_true, if_false, bqM_pnm, bqM_par, bqM_dnm, bqM_persons, bqM_dishes, bqM_law, bqM_dogs, TB_.w_pnm, TB_.w_par, TB_.w_dnm, TB_.w_persons, TB_.w_dishes, TB_.w_law, TB_.w_dogs, sqM_sl, sqM_so, SP_.w_sl, SP_.w_so, tqM_by_, tqM_wd, tqM_tk, tqM_pl, tqM_vl, tqM_len, tqM_n, tqM_at_, tqM_token, tqM_place, tqM_value, tqM_fault, tqM_fat, TP_.w_by_, TP_.w_wd, TP_.w_tk, TP_.w_pl, TP_.w_vl, TP_.w_len, TP_.w_n, TP_.w_at_, TP_.w_token, TP_.w_place, TP_.w_value, TP_.w_fault, TP_.w_fat])⟩ dX7_readOne_40
    · skip
      have r_36 := lt_l (hi := 19) (nle h_24) rx_22 rc_20 (by decide)
      refine g_iload_n C 4 dX7_readOne_29 rfl rfl ?_
      refine g_bipush C (v := 8) dX7_readOne_30 (by decide) ?_
      refine g_icmp_le C (tgt := 41) dX7_readOne_32 (by decide) (fun h_37 => ?_) (fun h_37 => ?_)
      · skip
        refine g_aload_n C 1 dX7_readOne_41 rfl rfl ?_
        refine g_dup C dX7_readOne_42 rfl ?_
        refine g_getI C K hLx hkx f_7_28 (v := x_22) hx_22 dX7_readOne_43 ?_
        refine g_iconst C (v := 1) dX7_readOne_46 (by decide) ?_
        obtain ⟨x_38, hx_38, rx_38, tx_38⟩ := ex_add (-2147483647) 20 r_36 rc_1 (by decide) (by decide) (by decide) (by decide)
        refine g_iadd C (v := x_38) dX7_readOne_47 hx_38 ?_
        refine h_putI C K hLx hkx f_7_28 p_7_5 dX7_readOne_48 (fun I_39 hI_39 => ?_)
        have hU_40 := iv_put W9 hU hI_39 (ro_o hkx (by decide)) (lo := (-2147483648)) (hi := 2147483647) (rfl) (rg_all _) rfl
        have hF_41 := fq_puto hF hI_39 hkx (by decide) (by decide)
        have hs_42 : TBq I_39 J a1 b_1 b_2 b_3 = s_4 := by rw [hI_39]; exact (bq_oI wbqa1 (ro_o hkx (by decide)) (by decide)).trans hs_4
        have hs_43 : TPq I_39 J a0 b_5 b_6 b_7 b_8 b_9 = s_10 := by rw [hI_39]; exact (tq_oI wtqa0 (ro_o hkx (by decide)) (by decide)).trans hs_10
        have hs_44 : SPq I_39 J x = (SP_.w_so s_11 (x_38)) := by rw [hI_39]; exact ((sq_so wsqx).trans (congrArg (fun z : SP_ => SP_.w_so z (x_38)) hs_11)).trans rfl
        refine g_aload_n C 2 dX7_readOne_51 rfl rfl ?_
        refine g_callVV C K (c_X10_advance W9 hLa0 hka0   hU_40) hLa0 hka0 (by decide) rfl v_7_60 rfl ⟨rfl, rfl⟩ ⟨Nat.le_of_ble_eq_true rfl, Nat.le_of_ble_eq_true rfl⟩ (Nat.le_of_ble_eq_true rfl) ⟨Nat.le_of_ble_eq_true rfl, Nat.le_of_ble_eq_true rfl⟩ dX7_readOne_52 rfl (st := []) (fun I_46 J_47 h_48 => ?_)
        obtain ⟨hUI_46, hFI_46, hGJ_47, fx_45⟩ := h_48
        have hF_49 := fq_tr hF_41 hFI_46 (by decide)
        have hG_50 := fq_tr hG hGJ_47 (by decide)
        obtain ⟨s_52, hs_52⟩ : ∃ z, TPq I_46 J_47 a0 b_5 b_6 b_7 b_8 b_9 = z := ⟨_, rfl⟩
        have c_51 : fAdvance (s_10) = s_52 := by have q := fx_45; simp only [etqa0, hs_43, hs_52] at q; exact q.symm
        have hs_53 : TBq I_46 J_47 a1 b_1 b_2 b_3 = s_4 := (bq_fq wbqa1 hFI_46 hGJ_47 (by decide) (by decide)).trans hs_42
        have hs_54 : SPq I_46 J_47 x = (SP_.w_so s_11 (x_38)) := (sq_fq wsqx hFI_46 hGJ_47 (by decide) (by decide)).trans hs_44
        refine g_iload C 0 dX7_readOne_55 rfl ?_
        refine g_bipush C (v := 40) dX7_readOne_57 (by decide) ?_
        refine g_icmp_ne C (tgt := 89) dX7_readOne_59 (by decide) (fun h_55 => ?_) (fun h_55 => ?_)
        · skip
          have n_56 : ¬ x_12 = 40 := h_55
          refine g_iload C 0 dX7_readOne_89 rfl ?_
          refine g_bipush C (v := 19) dX7_readOne_91 (by decide) ?_
          refine g_icmp_ne C (tgt := 125) dX7_readOne_93 (by decide) (fun h_57 => ?_) (fun h_57 => ?_)
          · skip
            have n_58 : ¬ x_12 = 19 := h_57
            refine g_aload_n C 1 dX7_readOne_125 rfl rfl ?_
            refine g_aload_n C 2 dX7_readOne_126 rfl rfl ?_
            refine g_aload_n C 3 dX7_readOne_127 rfl rfl ?_
            refine g_iload C 0 dX7_readOne_128 rfl ?_
            refine g_callVI C K (c_X7_readPlainOne W9 hLx hkx hLa0 hka0 hLa1 hka1 x_12  hUI_46) hLx hkx (by decide) rfl v_7_76 rfl ⟨rfl, rfl⟩ ⟨Nat.le_of_ble_eq_true rfl, Nat.le_of_ble_eq_true rfl⟩ (Nat.le_of_ble_eq_true rfl) ⟨Nat.le_of_ble_eq_true rfl, Nat.le_of_ble_eq_true rfl⟩ dX7_readOne_130 rfl (st := []) (fun x_59 I_60 J_61 h_62 => ?_)
            obtain ⟨hUI_60, hFI_60, hGJ_61, rx_59, fx_59⟩ := h_62
            have hF_63 := fq_tr hF_49 hFI_60 (by decide)
            have hG_64 := fq_tr hG_50 hGJ_61 (by decide)
            obtain ⟨s_66, hs_66⟩ : ∃ z, TPq I_60 J_61 a0 b_5 b_6 b_7 b_8 b_9 = z := ⟨_, rfl⟩
            obtain ⟨s_67, hs_67⟩ : ∃ z, SPq I_60 J_61 x = z := ⟨_, rfl⟩
            have c_65 : fPlain (x_12) (s_4) (s_52) ((SP_.w_so s_11 (x_38))) = (x_59, s_66, s_67) := by have q := fx_59; simp only [ebqa1, etqa0, esqx, hs_53, hs_52, hs_54, hs_66, hs_67] at q; exact q.symm
            have hs_68 : TBq I_60 J_61 a1 b_1 b_2 b_3 = s_4 := (bq_fq wbqa1 hFI_60 hGJ_61 (by decide) (by decide)).trans hs_53
            exact g_zret (ty := .boolean) (r := x_59) B K rfl (nar_z (rx_59)) ⟨hUI_60, hF_63, hG_64, rx_59, (by (try simp only [hx_12, f_13, c_18, h_19, hx_22, f_23, h_24, (nle h_24), h_37, hx_38, c_51, h_55, h_57, if_true, if_false, bqM_pnm, bqM_par, bqM_dnm, bqM_persons, bqM_dishes, bqM_law, bqM_dogs, TB_.w_pnm, TB_.w_par, TB_.w_dnm, TB_.w_persons, TB_.w_dishes, TB_.w_law, TB_.w_dogs, sqM_sl, sqM_so, SP_.w_sl, SP_.w_so, tqM_by_, tqM_wd, tqM_tk, tqM_pl, tqM_vl, tqM_len, tqM_n, tqM_at_, tqM_token, tqM_place, tqM_value, tqM_fault, tqM_fat, TP_.w_by_, TP_.w_wd, TP_.w_tk, TP_.w_pl, TP_.w_vl, TP_.w_len, TP_.w_n, TP_.w_at_, TP_.w_token, TP_.w_place, TP_.w_value, TP_.w_fault, TP_.w_fat] at c_65); simp only [fOne_k6, fAnd2, fFailS, fCmp, ebqa1, hs_68, hs_4, etqa0, hs_66, hs_10, esqx, hs_67, hs_11, hx_12, f_13, c_18, h_19, hx_22, f_23, h_24, (nle h_24), h_37, hx_38, c_51, h_55, h_57, c_65, if_true, if_false, bqM_pnm, bqM_par, bqM_dnm, bqM_persons, bqM_dishes, bqM_law, bqM_dogs, TB_.w_pnm, TB_.w_par, TB_.w_dnm, TB_.w_persons, TB_.w_dishes, TB_.w_law, TB_.w_dogs, sqM_sl, sqM_so, SP_.w_sl, SP_.w_so, tqM_by_, tqM_wd, tqM_tk, tqM_pl, tqM_vl, tqM_len, tqM_n, tqM_at_, tqM_token, tqM_place, tqM_value, tqM_fault, tqM_fat, TP_.w_by_, TP_.w_wd, TP_.w_tk, TP_.w_pl, TP_.w_vl, TP_.w_len, TP_.w_n, TP_.w_at_, TP_.w_token, TP_.w_place, TP_.w_value, TP_.w_fault, TP_.w_fat])⟩ dX7_readOne_133
          · skip
            have r_69 := (⟨(eq_rg (h_57) rc_19).1, (eq_rg (h_57) rc_19).2⟩ : Rg 19 19 x_12)
            refine g_aload_n C 1 dX7_readOne_96 rfl rfl ?_
            refine g_aload_n C 2 dX7_readOne_97 rfl rfl ?_
            refine g_aload_n C 3 dX7_readOne_98 rfl rfl ?_
            refine g_iload_n C 4 dX7_readOne_99 rfl rfl ?_
            refine g_iconst C (v := 1) dX7_readOne_100 (by decide) ?_
            obtain ⟨x_70, hx_70, rx_70, tx_70⟩ := ex_add 4 4 ra2 rc_1 (by decide) (by decide) (by decide) (by decide)
            refine g_iadd C (v := x_70) dX7_readOne_101 hx_70 ?_
            refine g_callVI C K (c_X7_readOne_4 W9 hLx hkx hLa0 hka0 hLa1 hka1 x_70 (rx_70) hUI_46) hLx hkx (by decide) rfl v_7_67 rfl ⟨rfl, rfl⟩ ⟨Nat.le_of_ble_eq_true rfl, Nat.le_of_ble_eq_true rfl⟩ (Nat.le_of_ble_eq_true rfl) ⟨Nat.le_of_ble_eq_true rfl, Nat.le_of_ble_eq_true rfl⟩ dX7_readOne_102 rfl (st := []) (fun x_71 I_72 J_73 h_74 => ?_)
            obtain ⟨hUI_72, hFI_72, hGJ_73, rx_71, fx_71⟩ := h_74
            have hF_75 := fq_tr hF_49 hFI_72 (by decide)
            have hG_76 := fq_tr hG_50 hGJ_73 (by decide)
            obtain ⟨s_78, hs_78⟩ : ∃ z, TPq I_72 J_73 a0 b_5 b_6 b_7 b_8 b_9 = z := ⟨_, rfl⟩
            obtain ⟨s_79, hs_79⟩ : ∃ z, SPq I_72 J_73 x = z := ⟨_, rfl⟩
            have c_77 : fOne 5 (s_4) (s_52) ((SP_.w_so s_11 (x_38))) = (x_71, s_78, s_79) := by have q := fx_71; simp only [ebqa1, etqa0, esqx, hs_53, hs_52, hs_54, hs_78, hs_79] at q; exact q.symm
            have hs_80 : TBq I_72 J_73 a1 b_1 b_2 b_3 = s_4 := (bq_fq wbqa1 hFI_72 hGJ_73 (by decide) (by decide)).trans hs_53
            refine g_if_eq C (tgt := 123) dX7_readOne_105 (by decide) (fun h_81 => ?_) (fun h_81 => ?_)
            · skip
              have r_82 := (⟨(rx_71).1, (eq_rg (h_81) rc_0).2⟩ : Rg 0 0 x_71)
              refine g_iconst C (v := 0) dX7_readOne_123 (by decide) ?_
              exact g_zret (ty := .boolean) (r := 0) B K rfl (rfl) ⟨hUI_72, hF_75, hG_76, rg_w rc_0 (by decide) (by decide), (by (try simp only [hx_12, f_13, c_18, h_19, hx_22, f_23, h_24, (nle h_24), h_37, hx_38, c_51, h_55, (eq_true h_57), hx_70, (eq_true h_81), if_true, if_false, bqM_pnm, bqM_par, bqM_dnm, bqM_persons, bqM_dishes, bqM_law, bqM_dogs, TB_.w_pnm, TB_.w_par, TB_.w_dnm, TB_.w_persons, TB_.w_dishes, TB_.w_law, TB_.w_dogs, sqM_sl, sqM_so, SP_.w_sl, SP_.w_so, tqM_by_, tqM_wd, tqM_tk, tqM_pl, tqM_vl, tqM_len, tqM_n, tqM_at_, tqM_token, tqM_place, tqM_value, tqM_fault, tqM_fat, TP_.w_by_, TP_.w_wd, TP_.w_tk, TP_.w_pl, TP_.w_vl, TP_.w_len, TP_.w_n, TP_.w_at_, TP_.w_token, TP_.w_place, TP_.w_value, TP_.w_fault, TP_.w_fat] at c_77); simp only [fOne_k6, fAnd2, fFailS, fCmp, ebqa1, hs_80, hs_4, etqa0, hs_78, hs_10, esqx, hs_79, hs_11, hx_12, f_13, c_18, h_19, hx_22, f_23, h_24, (nle h_24), h_37, hx_38, c_51, h_55, (eq_true h_57), hx_70, c_77, (eq_true h_81), if_true, if_false, bqM_pnm, bqM_par, bqM_dnm, bqM_persons, bqM_dishes, bqM_law, bqM_dogs, TB_.w_pnm, TB_.w_par, TB_.w_dnm, TB_.w_persons, TB_.w_dishes, TB_.w_law, TB_.w_dogs, sqM_sl, sqM_so, SP_.w_sl, SP_.w_so, tqM_by_, tqM_wd, tqM_tk, tqM_pl, tqM_vl, tqM_len, tqM_n, tqM_at_, tqM_token, tqM_place, tqM_value, tqM_fault, tqM_fat, TP_.w_by_, TP_.w_wd, TP_.w_tk, TP_.w_pl, TP_.w_vl, TP_.w_len, TP_.w_n, TP_.w_at_, TP_.w_token, TP_.w_place, TP_.w_value, TP_.w_fault, TP_.w_fat])⟩ dX7_readOne_124
            · skip
              have n_83 : ¬ x_71 = 0 := h_81
              have r_84 := ne_lo (lo := 1) n_83 rx_71 rc_0 rfl (by decide)
              refine g_aload_n C 1 dX7_readOne_108 rfl rfl ?_
              refine g_bipush C (v := 19) dX7_readOne_109 (by decide) ?_
              refine g_iconst C (v := 0) dX7_readOne_111 (by decide) ?_
              refine g_iconst C (v := 0) dX7_readOne_112 (by decide) ?_
              refine g_callVI C K (c_X7_addStep W9 hLx hkx 19 0 0 (rg_w rc_0 (by decide) (by decide)) hUI_72  (fun q => absurd q (by decide))) hLx hkx (by decide) rfl v_7_63 rfl ⟨rfl, rfl⟩ ⟨Nat.le_of_ble_eq_true rfl, Nat.le_of_ble_eq_true rfl⟩ (Nat.le_of_ble_eq_true rfl) ⟨Nat.le_of_ble_eq_true rfl, Nat.le_of_ble_eq_true rfl⟩ dX7_readOne_113 rfl (st := []) (fun x_85 I_86 J_87 h_88 => ?_)
              obtain ⟨hUI_86, hFI_86, hGJ_87, rx_85, fx_85⟩ := h_88
              have hF_89 := fq_tr hF_75 hFI_86 (by decide)
              have hG_90 := fq_tr hG_76 hGJ_87 (by decide)
              obtain ⟨s_92, hs_92⟩ : ∃ z, SPq I_86 J_87 x = z := ⟨_, rfl⟩
              have c_91 : fAddStep (s_79) = (x_85, s_92) := by have q := fx_85; simp only [esqx, hs_79, hs_92] at q; exact q.symm
              have hs_93 : TBq I_86 J_87 a1 b_1 b_2 b_3 = s_4 := (bq_fq wbqa1 hFI_86 hGJ_87 (by decide) (by decide)).trans hs_80
              have hs_94 : TPq I_86 J_87 a0 b_5 b_6 b_7 b_8 b_9 = s_78 := (tq_fq wtqa0 hFI_86 hGJ_87 (by decide) (by decide)).trans hs_78
              refine g_if_eq C (tgt := 123) dX7_readOne_116 (by decide) (fun h_95 => ?_) (fun h_95 => ?_)
              · skip
                have r_96 := (⟨(rx_85).1, (eq_rg (h_95) rc_0).2⟩ : Rg 0 0 x_85)
                refine g_iconst C (v := 0) dX7_readOne_123 (by decide) ?_
                exact g_zret (ty := .boolean) (r := 0) B K rfl (rfl) ⟨hUI_86, hF_89, hG_90, rg_w rc_0 (by decide) (by decide), (by (try simp only [hx_12, f_13, c_18, h_19, hx_22, f_23, h_24, (nle h_24), h_37, hx_38, c_51, h_55, (eq_true h_57), hx_70, h_81, c_91, (eq_true h_95), if_true, if_false, bqM_pnm, bqM_par, bqM_dnm, bqM_persons, bqM_dishes, bqM_law, bqM_dogs, TB_.w_pnm, TB_.w_par, TB_.w_dnm, TB_.w_persons, TB_.w_dishes, TB_.w_law, TB_.w_dogs, sqM_sl, sqM_so, SP_.w_sl, SP_.w_so, tqM_by_, tqM_wd, tqM_tk, tqM_pl, tqM_vl, tqM_len, tqM_n, tqM_at_, tqM_token, tqM_place, tqM_value, tqM_fault, tqM_fat, TP_.w_by_, TP_.w_wd, TP_.w_tk, TP_.w_pl, TP_.w_vl, TP_.w_len, TP_.w_n, TP_.w_at_, TP_.w_token, TP_.w_place, TP_.w_value, TP_.w_fault, TP_.w_fat] at c_77); simp only [fOne_k6, fAnd2, fFailS, fCmp, ebqa1, hs_93, hs_4, etqa0, hs_94, hs_10, esqx, hs_92, hs_11, hx_12, f_13, c_18, h_19, hx_22, f_23, h_24, (nle h_24), h_37, hx_38, c_51, h_55, (eq_true h_57), hx_70, c_77, h_81, c_91, (eq_true h_95), if_true, if_false, bqM_pnm, bqM_par, bqM_dnm, bqM_persons, bqM_dishes, bqM_law, bqM_dogs, TB_.w_pnm, TB_.w_par, TB_.w_dnm, TB_.w_persons, TB_.w_dishes, TB_.w_law, TB_.w_dogs, sqM_sl, sqM_so, SP_.w_sl, SP_.w_so, tqM_by_, tqM_wd, tqM_tk, tqM_pl, tqM_vl, tqM_len, tqM_n, tqM_at_, tqM_token, tqM_place, tqM_value, tqM_fault, tqM_fat, TP_.w_by_, TP_.w_wd, TP_.w_tk, TP_.w_pl, TP_.w_vl, TP_.w_len, TP_.w_n, TP_.w_at_, TP_.w_token, TP_.w_place, TP_.w_value, TP_.w_fault, TP_.w_fat])⟩ dX7_readOne_124
              · skip
                have n_97 : ¬ x_85 = 0 := h_95
                have r_98 := ne_lo (lo := 1) n_97 rx_85 rc_0 rfl (by decide)
                refine g_iconst C (v := 1) dX7_readOne_119 (by decide) ?_
                refine g_goto C (tgt := 124) dX7_readOne_120 (by decide) ?_
                exact g_zret (ty := .boolean) (r := 1) B K rfl (rfl) ⟨hUI_86, hF_89, hG_90, rg_w rc_1 (by decide) (by decide), (by (try simp only [hx_12, f_13, c_18, h_19, hx_22, f_23, h_24, (nle h_24), h_37, hx_38, c_51, h_55, (eq_true h_57), hx_70, h_81, c_91, h_95, if_true, if_false, bqM_pnm, bqM_par, bqM_dnm, bqM_persons, bqM_dishes, bqM_law, bqM_dogs, TB_.w_pnm, TB_.w_par, TB_.w_dnm, TB_.w_persons, TB_.w_dishes, TB_.w_law, TB_.w_dogs, sqM_sl, sqM_so, SP_.w_sl, SP_.w_so, tqM_by_, tqM_wd, tqM_tk, tqM_pl, tqM_vl, tqM_len, tqM_n, tqM_at_, tqM_token, tqM_place, tqM_value, tqM_fault, tqM_fat, TP_.w_by_, TP_.w_wd, TP_.w_tk, TP_.w_pl, TP_.w_vl, TP_.w_len, TP_.w_n, TP_.w_at_, TP_.w_token, TP_.w_place, TP_.w_value, TP_.w_fault, TP_.w_fat] at c_77); simp only [fOne_k6, fAnd2, fFailS, fCmp, ebqa1, hs_93, hs_4, etqa0, hs_94, hs_10, esqx, hs_92, hs_11, hx_12, f_13, c_18, h_19, hx_22, f_23, h_24, (nle h_24), h_37, hx_38, c_51, h_55, (eq_true h_57), hx_70, c_77, h_81, c_91, h_95, if_true, if_false, bqM_pnm, bqM_par, bqM_dnm, bqM_persons, bqM_dishes, bqM_law, bqM_dogs, TB_.w_pnm, TB_.w_par, TB_.w_dnm, TB_.w_persons, TB_.w_dishes, TB_.w_law, TB_.w_dogs, sqM_sl, sqM_so, SP_.w_sl, SP_.w_so, tqM_by_, tqM_wd, tqM_tk, tqM_pl, tqM_vl, tqM_len, tqM_n, tqM_at_, tqM_token, tqM_place, tqM_value, tqM_fault, tqM_fat, TP_.w_by_, TP_.w_wd, TP_.w_tk, TP_.w_pl, TP_.w_vl, TP_.w_len, TP_.w_n, TP_.w_at_, TP_.w_token, TP_.w_place, TP_.w_value, TP_.w_fault, TP_.w_fat])⟩ dX7_readOne_124
        · skip
          have r_99 := (⟨(eq_rg (h_55) rc_40).1, (eq_rg (h_55) rc_40).2⟩ : Rg 40 40 x_12)
          refine g_aload_n C 1 dX7_readOne_62 rfl rfl ?_
          refine g_aload_n C 2 dX7_readOne_63 rfl rfl ?_
          refine g_aload_n C 3 dX7_readOne_64 rfl rfl ?_
          refine g_iload_n C 4 dX7_readOne_65 rfl rfl ?_
          refine g_iconst C (v := 1) dX7_readOne_66 (by decide) ?_
          obtain ⟨x_100, hx_100, rx_100, tx_100⟩ := ex_add 4 4 ra2 rc_1 (by decide) (by decide) (by decide) (by decide)
          refine g_iadd C (v := x_100) dX7_readOne_67 hx_100 ?_
          refine g_callVI C K (c_X7_readCond_4 W9 hLx hkx hLa0 hka0 hLa1 hka1 x_100 (rx_100) hUI_46) hLx hkx (by decide) rfl v_7_46 rfl ⟨rfl, rfl⟩ ⟨Nat.le_of_ble_eq_true rfl, Nat.le_of_ble_eq_true rfl⟩ (Nat.le_of_ble_eq_true rfl) ⟨Nat.le_of_ble_eq_true rfl, Nat.le_of_ble_eq_true rfl⟩ dX7_readOne_68 rfl (st := []) (fun x_101 I_102 J_103 h_104 => ?_)
          obtain ⟨hUI_102, hFI_102, hGJ_103, rx_101, fx_101⟩ := h_104
          have hF_105 := fq_tr hF_49 hFI_102 (by decide)
          have hG_106 := fq_tr hG_50 hGJ_103 (by decide)
          obtain ⟨s_108, hs_108⟩ : ∃ z, TPq I_102 J_103 a0 b_5 b_6 b_7 b_8 b_9 = z := ⟨_, rfl⟩
          obtain ⟨s_109, hs_109⟩ : ∃ z, SPq I_102 J_103 x = z := ⟨_, rfl⟩
          have c_107 : fCond 5 (s_4) (s_52) ((SP_.w_so s_11 (x_38))) = (x_101, s_108, s_109) := by have q := fx_101; simp only [ebqa1, etqa0, esqx, hs_53, hs_52, hs_54, hs_108, hs_109] at q; exact q.symm
          have hs_110 : TBq I_102 J_103 a1 b_1 b_2 b_3 = s_4 := (bq_fq wbqa1 hFI_102 hGJ_103 (by decide) (by decide)).trans hs_53
          refine g_if_eq C (tgt := 87) dX7_readOne_71 (by decide) (fun h_111 => ?_) (fun h_111 => ?_)
          · skip
            have r_112 := (⟨(rx_101).1, (eq_rg (h_111) rc_0).2⟩ : Rg 0 0 x_101)
            refine g_iconst C (v := 0) dX7_readOne_87 (by decide) ?_
            exact g_zret (ty := .boolean) (r := 0) B K rfl (rfl) ⟨hUI_102, hF_105, hG_106, rg_w rc_0 (by decide) (by decide), (by (try simp only [hx_12, f_13, c_18, h_19, hx_22, f_23, h_24, (nle h_24), h_37, hx_38, c_51, (eq_true h_55), hx_100, (eq_true h_111), if_true, if_false, bqM_pnm, bqM_par, bqM_dnm, bqM_persons, bqM_dishes, bqM_law, bqM_dogs, TB_.w_pnm, TB_.w_par, TB_.w_dnm, TB_.w_persons, TB_.w_dishes, TB_.w_law, TB_.w_dogs, sqM_sl, sqM_so, SP_.w_sl, SP_.w_so, tqM_by_, tqM_wd, tqM_tk, tqM_pl, tqM_vl, tqM_len, tqM_n, tqM_at_, tqM_token, tqM_place, tqM_value, tqM_fault, tqM_fat, TP_.w_by_, TP_.w_wd, TP_.w_tk, TP_.w_pl, TP_.w_vl, TP_.w_len, TP_.w_n, TP_.w_at_, TP_.w_token, TP_.w_place, TP_.w_value, TP_.w_fault, TP_.w_fat] at c_107); simp only [fOne_k6, fAnd2, fFailS, fCmp, ebqa1, hs_110, hs_4, etqa0, hs_108, hs_10, esqx, hs_109, hs_11, hx_12, f_13, c_18, h_19, hx_22, f_23, h_24, (nle h_24), h_37, hx_38, c_51, (eq_true h_55), hx_100, c_107, (eq_true h_111), if_true, if_false, bqM_pnm, bqM_par, bqM_dnm, bqM_persons, bqM_dishes, bqM_law, bqM_dogs, TB_.w_pnm, TB_.w_par, TB_.w_dnm, TB_.w_persons, TB_.w_dishes, TB_.w_law, TB_.w_dogs, sqM_sl, sqM_so, SP_.w_sl, SP_.w_so, tqM_by_, tqM_wd, tqM_tk, tqM_pl, tqM_vl, tqM_len, tqM_n, tqM_at_, tqM_token, tqM_place, tqM_value, tqM_fault, tqM_fat, TP_.w_by_, TP_.w_wd, TP_.w_tk, TP_.w_pl, TP_.w_vl, TP_.w_len, TP_.w_n, TP_.w_at_, TP_.w_token, TP_.w_place, TP_.w_value, TP_.w_fault, TP_.w_fat])⟩ dX7_readOne_88
          · skip
            have n_113 : ¬ x_101 = 0 := h_111
            have r_114 := ne_lo (lo := 1) n_113 rx_101 rc_0 rfl (by decide)
            refine g_aload_n C 2 dX7_readOne_74 rfl rfl ?_
            refine g_bipush C (v := 41) dX7_readOne_75 (by decide) ?_
            refine g_callVI C K (c_X10_take W9 hLa0 hka0 41 (rg_w rc_41 (by decide) (by decide)) hUI_102) hLa0 hka0 (by decide) rfl v_7_50 rfl ⟨rfl, rfl⟩ ⟨Nat.le_of_ble_eq_true rfl, Nat.le_of_ble_eq_true rfl⟩ (Nat.le_of_ble_eq_true rfl) ⟨Nat.le_of_ble_eq_true rfl, Nat.le_of_ble_eq_true rfl⟩ dX7_readOne_77 rfl (st := []) (fun x_115 I_116 J_117 h_118 => ?_)
            obtain ⟨hUI_116, hFI_116, hGJ_117, rx_115, fx_115⟩ := h_118
            have hF_119 := fq_tr hF_105 hFI_116 (by decide)
            have hG_120 := fq_tr hG_106 hGJ_117 (by decide)
            obtain ⟨s_122, hs_122⟩ : ∃ z, TPq I_116 J_117 a0 b_5 b_6 b_7 b_8 b_9 = z := ⟨_, rfl⟩
            have c_121 : fTake (41) (s_108) = (x_115, s_122) := by have q := fx_115; simp only [etqa0, hs_108, hs_122] at q; exact q.symm
            have hs_123 : TBq I_116 J_117 a1 b_1 b_2 b_3 = s_4 := (bq_fq wbqa1 hFI_116 hGJ_117 (by decide) (by decide)).trans hs_110
            have hs_124 : SPq I_116 J_117 x = s_109 := (sq_fq wsqx hFI_116 hGJ_117 (by decide) (by decide)).trans hs_109
            refine g_if_eq C (tgt := 87) dX7_readOne_80 (by decide) (fun h_125 => ?_) (fun h_125 => ?_)
            · skip
              have r_126 := (⟨(rx_115).1, (eq_rg (h_125) rc_0).2⟩ : Rg 0 0 x_115)
              refine g_iconst C (v := 0) dX7_readOne_87 (by decide) ?_
              exact g_zret (ty := .boolean) (r := 0) B K rfl (rfl) ⟨hUI_116, hF_119, hG_120, rg_w rc_0 (by decide) (by decide), (by (try simp only [hx_12, f_13, c_18, h_19, hx_22, f_23, h_24, (nle h_24), h_37, hx_38, c_51, (eq_true h_55), hx_100, h_111, c_121, (eq_true h_125), if_true, if_false, bqM_pnm, bqM_par, bqM_dnm, bqM_persons, bqM_dishes, bqM_law, bqM_dogs, TB_.w_pnm, TB_.w_par, TB_.w_dnm, TB_.w_persons, TB_.w_dishes, TB_.w_law, TB_.w_dogs, sqM_sl, sqM_so, SP_.w_sl, SP_.w_so, tqM_by_, tqM_wd, tqM_tk, tqM_pl, tqM_vl, tqM_len, tqM_n, tqM_at_, tqM_token, tqM_place, tqM_value, tqM_fault, tqM_fat, TP_.w_by_, TP_.w_wd, TP_.w_tk, TP_.w_pl, TP_.w_vl, TP_.w_len, TP_.w_n, TP_.w_at_, TP_.w_token, TP_.w_place, TP_.w_value, TP_.w_fault, TP_.w_fat] at c_107); simp only [fOne_k6, fAnd2, fFailS, fCmp, ebqa1, hs_123, hs_4, etqa0, hs_122, hs_10, esqx, hs_124, hs_11, hx_12, f_13, c_18, h_19, hx_22, f_23, h_24, (nle h_24), h_37, hx_38, c_51, (eq_true h_55), hx_100, c_107, h_111, c_121, (eq_true h_125), if_true, if_false, bqM_pnm, bqM_par, bqM_dnm, bqM_persons, bqM_dishes, bqM_law, bqM_dogs, TB_.w_pnm, TB_.w_par, TB_.w_dnm, TB_.w_persons, TB_.w_dishes, TB_.w_law, TB_.w_dogs, sqM_sl, sqM_so, SP_.w_sl, SP_.w_so, tqM_by_, tqM_wd, tqM_tk, tqM_pl, tqM_vl, tqM_len, tqM_n, tqM_at_, tqM_token, tqM_place, tqM_value, tqM_fault, tqM_fat, TP_.w_by_, TP_.w_wd, TP_.w_tk, TP_.w_pl, TP_.w_vl, TP_.w_len, TP_.w_n, TP_.w_at_, TP_.w_token, TP_.w_place, TP_.w_value, TP_.w_fault, TP_.w_fat])⟩ dX7_readOne_88
            · skip
              have n_127 : ¬ x_115 = 0 := h_125
              have r_128 := ne_lo (lo := 1) n_127 rx_115 rc_0 rfl (by decide)
              refine g_iconst C (v := 1) dX7_readOne_83 (by decide) ?_
              refine g_goto C (tgt := 88) dX7_readOne_84 (by decide) ?_
              exact g_zret (ty := .boolean) (r := 1) B K rfl (rfl) ⟨hUI_116, hF_119, hG_120, rg_w rc_1 (by decide) (by decide), (by (try simp only [hx_12, f_13, c_18, h_19, hx_22, f_23, h_24, (nle h_24), h_37, hx_38, c_51, (eq_true h_55), hx_100, h_111, c_121, h_125, if_true, if_false, bqM_pnm, bqM_par, bqM_dnm, bqM_persons, bqM_dishes, bqM_law, bqM_dogs, TB_.w_pnm, TB_.w_par, TB_.w_dnm, TB_.w_persons, TB_.w_dishes, TB_.w_law, TB_.w_dogs, sqM_sl, sqM_so, SP_.w_sl, SP_.w_so, tqM_by_, tqM_wd, tqM_tk, tqM_pl, tqM_vl, tqM_len, tqM_n, tqM_at_, tqM_token, tqM_place, tqM_value, tqM_fault, tqM_fat, TP_.w_by_, TP_.w_wd, TP_.w_tk, TP_.w_pl, TP_.w_vl, TP_.w_len, TP_.w_n, TP_.w_at_, TP_.w_token, TP_.w_place, TP_.w_value, TP_.w_fault, TP_.w_fat] at c_107); simp only [fOne_k6, fAnd2, fFailS, fCmp, ebqa1, hs_123, hs_4, etqa0, hs_122, hs_10, esqx, hs_124, hs_11, hx_12, f_13, c_18, h_19, hx_22, f_23, h_24, (nle h_24), h_37, hx_38, c_51, (eq_true h_55), hx_100, c_107, h_111, c_121, h_125, if_true, if_false, bqM_pnm, bqM_par, bqM_dnm, bqM_persons, bqM_dishes, bqM_law, bqM_dogs, TB_.w_pnm, TB_.w_par, TB_.w_dnm, TB_.w_persons, TB_.w_dishes, TB_.w_law, TB_.w_dogs, sqM_sl, sqM_so, SP_.w_sl, SP_.w_so, tqM_by_, tqM_wd, tqM_tk, tqM_pl, tqM_vl, tqM_len, tqM_n, tqM_at_, tqM_token, tqM_place, tqM_value, tqM_fault, tqM_fat, TP_.w_by_, TP_.w_wd, TP_.w_tk, TP_.w_pl, TP_.w_vl, TP_.w_len, TP_.w_n, TP_.w_at_, TP_.w_token, TP_.w_place, TP_.w_value, TP_.w_fault, TP_.w_fat])⟩ dX7_readOne_88
      · skip
        have r_129 := lt_r (lo := 9) (nle h_37) rc_8 ra2 (by decide)
        exact rg_no r_129 (by decide)
  · skip
    have r_130 := (⟨(rx_14).1, (eq_rg (h_19) rc_0).2⟩ : Rg 0 0 x_14)
    refine g_aload_n C 2 dX7_readOne_14 rfl rfl ?_
    refine g_iconst C (v := 1) dX7_readOne_15 (by decide) ?_
    refine g_callVI C K (c_X10_fail W9 hLa0 hka0 1 (rg_w rc_1 (by decide) (by decide)) hU) hLa0 hka0 (by decide) rfl v_7_73 rfl ⟨rfl, rfl⟩ ⟨Nat.le_of_ble_eq_true rfl, Nat.le_of_ble_eq_true rfl⟩ (Nat.le_of_ble_eq_true rfl) ⟨Nat.le_of_ble_eq_true rfl, Nat.le_of_ble_eq_true rfl⟩ dX7_readOne_16 rfl (st := []) (fun x_131 I_132 J_133 h_134 => ?_)
    obtain ⟨hUI_132, hFI_132, hGJ_133, rx_131, fx_131⟩ := h_134
    have hF_135 := fq_tr hF hFI_132 (by decide)
    have hG_136 := fq_tr hG hGJ_133 (by decide)
    obtain ⟨s_138, hs_138⟩ : ∃ z, TPq I_132 J_133 a0 b_5 b_6 b_7 b_8 b_9 = z := ⟨_, rfl⟩
    have c_137 : fFail (1) (s_10) = (x_131, s_138) := by have q := fx_131; simp only [etqa0, hs_10, hs_138] at q; exact q.symm
    have hs_139 : TBq I_132 J_133 a1 b_1 b_2 b_3 = s_4 := (bq_fq wbqa1 hFI_132 hGJ_133 (by decide) (by decide)).trans hs_4
    have hs_140 : SPq I_132 J_133 x = s_11 := (sq_fq wsqx hFI_132 hGJ_133 (by decide) (by decide)).trans hs_11
    exact g_zret (ty := .boolean) (r := x_131) B K rfl (nar_z (rg_w rx_131 (by decide) (by decide))) ⟨hUI_132, hF_135, hG_136, rg_w rx_131 (by decide) (by decide), (by simp only [fOne_k6, fAnd2, fFailS, fCmp, ebqa1, hs_139, hs_4, etqa0, hs_138, hs_10, esqx, hs_140, hs_11, hx_12, f_13, c_18, (eq_true h_19), c_137, if_true, if_false, bqM_pnm, bqM_par, bqM_dnm, bqM_persons, bqM_dishes, bqM_law, bqM_dogs, TB_.w_pnm, TB_.w_par, TB_.w_dnm, TB_.w_persons, TB_.w_dishes, TB_.w_law, TB_.w_dogs, sqM_sl, sqM_so, SP_.w_sl, SP_.w_so, tqM_by_, tqM_wd, tqM_tk, tqM_pl, tqM_vl, tqM_len, tqM_n, tqM_at_, tqM_token, tqM_place, tqM_value, tqM_fault, tqM_fat, TP_.w_by_, TP_.w_wd, TP_.w_tk, TP_.w_pl, TP_.w_vl, TP_.w_len, TP_.w_n, TP_.w_at_, TP_.w_token, TP_.w_place, TP_.w_value, TP_.w_fault, TP_.w_fat])⟩ dX7_readOne_19
set_option maxRecDepth 100000 in
set_option maxHeartbeats 8000000 in
theorem c_X7_readAll_3 {l : Launch} {D : va_G} {cy : Nat → ClassId} {L : List Nat} {κ ln : Nat → Nat} {R : Nat → Nat → Option Nat} {I : Nat → Nat → Int32} {J : Nat → Nat → Int64} {ow : Nat → Nat × Nat} (W9 : ∀ a ∈ L, Shp L κ ln R ow a) {x : Nat} (hLx : x ∈ L) (hkx : κ x = 7) {a0 : Nat} (hLa0 : a0 ∈ L) (hka0 : κ a0 = 10) {a1 : Nat} (hLa1 : a1 ∈ L) (hka1 : κ a1 = 8) (a2 : Int32) (ra2 : Rg 3 3 a2) (hU : Iv L κ R ow I) : CtI l yX7_readAll cX7_readAll 6 (some .boolean) { frames := 20, cells := 0, slots := 0, locals := 489 } D cy L κ ln R I J [.ref x, .ref a0, .ref a1, .int a2] (fun r I2 J2 => Iv L κ R ow I2 ∧ Fq L κ ow [704, 705, 1007, 1008, 1009, 1011, 1012, 52000, 52100, 52200] I I2 ∧ Fq L κ ow [1010] J J2 ∧ Rg 0 1 r ∧ ((r, TPf R I2 J2 a0, SPf R I2 J2 x) = fAll 6 (TBf R I J a1) (TPf R I J a0) (SPf R I J x))) := by
  refine CtI.of (by decide +kernel) (Nat.le_of_ble_eq_true rfl) ?_
  intro p e s m below meth c B K
  have C := B.1
  have hF : Fq L κ ow [704, 705, 1007, 1008, 1009, 1011, 1012, 52000, 52100, 52200] I I := fq_rf
  have hG : Fq L κ ow [1010] J J := fq_rf
  obtain ⟨b_1, hb_1, hb_1L, hb_1k, hb_1n, hb_1o⟩ := shp_a (W9 a1 hLa1) hka1 0 15 7 rfl (by decide)
  obtain ⟨b_2, hb_2, hb_2L, hb_2k, hb_2n, hb_2o⟩ := shp_a (W9 a1 hLa1) hka1 2 14 7 rfl (by decide)
  obtain ⟨b_3, hb_3, hb_3L, hb_3k, hb_3n, hb_3o⟩ := shp_a (W9 a1 hLa1) hka1 3 15 6 rfl (by decide)
  have ebqa1 : ∀ I J, TBf R I J a1 = TBq I J a1 b_1 b_2 b_3 := fun I J => by simp only [TBf, rr_, Option.getD_some, hb_1, hb_2, hb_3]
  have wbqa1 : bqw_ L κ ow a1 b_1 b_2 b_3 := ⟨⟨hLa1, hb_1L, hb_2L, hb_3L⟩, ⟨(ro_o hka1 (by decide)), (ro_a hb_1k (by decide) hb_1o hka1 rfl), (ro_a hb_2k (by decide) hb_2o hka1 rfl), (ro_a hb_3k (by decide) hb_3o hka1 rfl)⟩⟩
  obtain ⟨s_4, hs_4⟩ : ∃ z, TBq I J a1 b_1 b_2 b_3 = z := ⟨_, rfl⟩
  obtain ⟨b_5, hb_5, hb_5L, hb_5k, hb_5n, hb_5o⟩ := shp_a (W9 a0 hLa0) hka0 0 13 940 rfl (by decide)
  obtain ⟨b_6, hb_6, hb_6L, hb_6k, hb_6n, hb_6o⟩ := shp_a (W9 a0 hLa0) hka0 1 15 28 rfl (by decide)
  obtain ⟨b_7, hb_7, hb_7L, hb_7k, hb_7n, hb_7o⟩ := shp_a (W9 a0 hLa0) hka0 2 14 901 rfl (by decide)
  obtain ⟨b_8, hb_8, hb_8L, hb_8k, hb_8n, hb_8o⟩ := shp_a (W9 a0 hLa0) hka0 3 14 901 rfl (by decide)
  obtain ⟨b_9, hb_9, hb_9L, hb_9k, hb_9n, hb_9o⟩ := shp_a (W9 a0 hLa0) hka0 4 15 901 rfl (by decide)
  have etqa0 : ∀ I J, TPf R I J a0 = TPq I J a0 b_5 b_6 b_7 b_8 b_9 := fun I J => by simp only [TPf, rr_, Option.getD_some, hb_5, hb_6, hb_7, hb_8, hb_9]
  have wtqa0 : tqw_ L κ ow a0 b_5 b_6 b_7 b_8 b_9 := ⟨⟨hLa0, hb_5L, hb_6L, hb_7L, hb_8L, hb_9L⟩, ⟨(ro_o hka0 (by decide)), (ro_a hb_5k (by decide) hb_5o hka0 rfl), (ro_a hb_6k (by decide) hb_6o hka0 rfl), (ro_a hb_7k (by decide) hb_7o hka0 rfl), (ro_a hb_8k (by decide) hb_8o hka0 rfl), (ro_a hb_9k (by decide) hb_9o hka0 rfl)⟩⟩
  obtain ⟨s_10, hs_10⟩ : ∃ z, TPq I J a0 b_5 b_6 b_7 b_8 b_9 = z := ⟨_, rfl⟩
  have esqx : ∀ I J, SPf R I J x = SPq I J x := fun I J => by simp only [SPf, rr_, Option.getD_some]
  have wsqx : sqw_ L κ ow x := ⟨hLx, (ro_o hkx (by decide))⟩
  obtain ⟨s_11, hs_11⟩ : ∃ z, SPq I J x = z := ⟨_, rfl⟩
  refine g_lo (is := [0, 1, 2, 3]) (lo2 := [(0, .ref x), (1, .ref a0), (2, .ref a1), (3, .int a2)]) rfl ?_
  have l_12 : ∀ (n_12 : Nat) (I_12 : Nat → Nat → Int32) (J_13 : Nat → Nat → Int64) (hU_14 : Iv L κ R ow I_12) (hF_15 : Fq L κ ow [704, 705, 1007, 1008, 1009, 1011, 1012, 52000, 52100, 52200] I I_12) (hG_16 : Fq L κ ow [1010] J J_13) (v_17 : Int32) (rv_17 : Rg 0 1 v_17) (v_18 : Int32) (rv_18 : Rg 0 20 v_18) (hq_19 : fLp (fOne 6 (TBq I_12 J_13 a1 b_1 b_2 b_3)) 18 v_18 v_17 (TPq I_12 J_13 a0 b_5 b_6 b_7 b_8 b_9) (SPq I_12 J_13 x) = fAll 6 s_4 s_10 s_11) (hm_20 : 20 < (v_18 : Int32).toInt + (n_12 : Int)), WG p l e { frames := 20, cells := 0, slots := 0, locals := 489 } s m ([.ref x, .ref a0, .ref a1, .int a2] : List Value).toArray below meth c 6 0 0 (MQ below (Qi_ D cy L κ ln R (fun r I2 J2 => Iv L κ R ow I2 ∧ Fq L κ ow [704, 705, 1007, 1008, 1009, 1011, 1012, 52000, 52100, 52200] I I2 ∧ Fq L κ ow [1010] J J2 ∧ Rg 0 1 r ∧ ((r, TPf R I2 J2 a0, SPf R I2 J2 x) = fAll 6 (TBf R I J a1) (TPf R I J a0) (SPf R I J x)))) ([.ref x, .ref a0, .ref a1, .int a2] : List Value).toArray s 0 0 (Al_ L)) D cy (Al_ L) s.heap L κ ln R I_12 J_13 12 [(0, .ref x), (1, .ref a0), (2, .ref a1), (3, .int a2), (4, .int v_17), (5, .int v_18)] [] := by
    intro n_12
    induction n_12 with
    | zero =>
      intro I_12 J_13 hU_14 hF_15 hG_16 v_17 rv_17 v_18 rv_18 hq_19 hm_20
      exact ms_0 rv_18 hm_20
    | succ n_12 ih_12 =>
      intro I_12 J_13 hU_14 hF_15 hG_16 v_17 rv_17 v_18 rv_18 hq_19 hm_20
      obtain ⟨s_21, hs_21⟩ : ∃ z, TBq I_12 J_13 a1 b_1 b_2 b_3 = z := ⟨_, rfl⟩
      obtain ⟨s_22, hs_22⟩ : ∃ z, TPq I_12 J_13 a0 b_5 b_6 b_7 b_8 b_9 = z := ⟨_, rfl⟩
      obtain ⟨s_23, hs_23⟩ : ∃ z, SPq I_12 J_13 x = z := ⟨_, rfl⟩
      simp only [hs_21, hs_22, hs_23] at hq_19
      have hQ_24 := hq_19.symm
      have u_25 := fLp_eq (rd := fOne 6 s_21) (k := 18) (i := v_18) (r := v_17) (t := s_22) (s := s_23) (rv_18)
      refine g_iload C 5 dX7_readAll_12 rfl ?_
      refine g_bipush C (v := 20) dX7_readAll_14 (by decide) ?_
      refine g_icmp_ge C (tgt := 71) dX7_readAll_16 (by decide) (fun h_26 => ?_) (fun h_26 => ?_)
      · skip
        have r_27 := le_r (h_26) rc_20 rv_18
        refine g_iload C 4 dX7_readAll_71 rfl ?_
        exact g_zret (ty := .boolean) (r := v_17) B K rfl (nar_z (rv_17)) ⟨hU_14, hF_15, hG_16, rv_17, (by (try simp only [h_26, if_true, if_false, bqM_pnm, bqM_par, bqM_dnm, bqM_persons, bqM_dishes, bqM_law, bqM_dogs, TB_.w_pnm, TB_.w_par, TB_.w_dnm, TB_.w_persons, TB_.w_dishes, TB_.w_law, TB_.w_dogs, sqM_sl, sqM_so, SP_.w_sl, SP_.w_so, tqM_by_, tqM_wd, tqM_tk, tqM_pl, tqM_vl, tqM_len, tqM_n, tqM_at_, tqM_token, tqM_place, tqM_value, tqM_fault, tqM_fat, TP_.w_by_, TP_.w_wd, TP_.w_tk, TP_.w_pl, TP_.w_vl, TP_.w_len, TP_.w_n, TP_.w_at_, TP_.w_token, TP_.w_place, TP_.w_value, TP_.w_fault, TP_.w_fat] at hQ_24); (try simp only [h_26, if_true, if_false, bqM_pnm, bqM_par, bqM_dnm, bqM_persons, bqM_dishes, bqM_law, bqM_dogs, TB_.w_pnm, TB_.w_par, TB_.w_dnm, TB_.w_persons, TB_.w_dishes, TB_.w_law, TB_.w_dogs, sqM_sl, sqM_so, SP_.w_sl, SP_.w_so, tqM_by_, tqM_wd, tqM_tk, tqM_pl, tqM_vl, tqM_len, tqM_n, tqM_at_, tqM_token, tqM_place, tqM_value, tqM_fault, tqM_fat, TP_.w_by_, TP_.w_wd, TP_.w_tk, TP_.w_pl, TP_.w_vl, TP_.w_len, TP_.w_n, TP_.w_at_, TP_.w_token, TP_.w_place, TP_.w_value, TP_.w_fault, TP_.w_fat] at u_25); simp only [ebqa1, hs_21, hs_4, etqa0, hs_22, hs_10, esqx, hs_23, hs_11, hQ_24, u_25, h_26, if_true, if_false, bqM_pnm, bqM_par, bqM_dnm, bqM_persons, bqM_dishes, bqM_law, bqM_dogs, TB_.w_pnm, TB_.w_par, TB_.w_dnm, TB_.w_persons, TB_.w_dishes, TB_.w_law, TB_.w_dogs, sqM_sl, sqM_so, SP_.w_sl, SP_.w_so, tqM_by_, tqM_wd, tqM_tk, tqM_pl, tqM_vl, tqM_len, tqM_n, tqM_at_, tqM_token, tqM_place, tqM_value, tqM_fault, tqM_fat, TP_.w_by_, TP_.w_wd, TP_.w_tk, TP_.w_pl, TP_.w_vl, TP_.w_len, TP_.w_n, TP_.w_at_, TP_.w_token, TP_.w_place, TP_.w_value, TP_.w_fault, TP_.w_fat])⟩ dX7_readAll_73
      · skip
        have r_28 := lt_l (hi := 19) (nle h_26) rv_18 rc_20 (by decide)
        refine g_iload C 4 dX7_readAll_19 rfl ?_
        refine g_if_eq C (tgt := 71) dX7_readAll_21 (by decide) (fun h_29 => ?_) (fun h_29 => ?_)
        · skip
          have r_30 := (⟨(rv_17).1, (eq_rg (h_29) rc_0).2⟩ : Rg 0 0 v_17)
          refine g_iload C 4 dX7_readAll_71 rfl ?_
          exact g_zret (ty := .boolean) (r := v_17) B K rfl (nar_z (rg_w r_30 (by decide) (by decide))) ⟨hU_14, hF_15, hG_16, rg_w r_30 (by decide) (by decide), (by (try simp only [h_26, (nle h_26), (eq_true h_29), if_true, if_false, bqM_pnm, bqM_par, bqM_dnm, bqM_persons, bqM_dishes, bqM_law, bqM_dogs, TB_.w_pnm, TB_.w_par, TB_.w_dnm, TB_.w_persons, TB_.w_dishes, TB_.w_law, TB_.w_dogs, sqM_sl, sqM_so, SP_.w_sl, SP_.w_so, tqM_by_, tqM_wd, tqM_tk, tqM_pl, tqM_vl, tqM_len, tqM_n, tqM_at_, tqM_token, tqM_place, tqM_value, tqM_fault, tqM_fat, TP_.w_by_, TP_.w_wd, TP_.w_tk, TP_.w_pl, TP_.w_vl, TP_.w_len, TP_.w_n, TP_.w_at_, TP_.w_token, TP_.w_place, TP_.w_value, TP_.w_fault, TP_.w_fat] at hQ_24); (try simp only [h_26, (nle h_26), (eq_true h_29), if_true, if_false, bqM_pnm, bqM_par, bqM_dnm, bqM_persons, bqM_dishes, bqM_law, bqM_dogs, TB_.w_pnm, TB_.w_par, TB_.w_dnm, TB_.w_persons, TB_.w_dishes, TB_.w_law, TB_.w_dogs, sqM_sl, sqM_so, SP_.w_sl, SP_.w_so, tqM_by_, tqM_wd, tqM_tk, tqM_pl, tqM_vl, tqM_len, tqM_n, tqM_at_, tqM_token, tqM_place, tqM_value, tqM_fault, tqM_fat, TP_.w_by_, TP_.w_wd, TP_.w_tk, TP_.w_pl, TP_.w_vl, TP_.w_len, TP_.w_n, TP_.w_at_, TP_.w_token, TP_.w_place, TP_.w_value, TP_.w_fault, TP_.w_fat] at u_25); simp only [ebqa1, hs_21, hs_4, etqa0, hs_22, hs_10, esqx, hs_23, hs_11, hQ_24, u_25, h_26, (nle h_26), (eq_true h_29), if_true, if_false, bqM_pnm, bqM_par, bqM_dnm, bqM_persons, bqM_dishes, bqM_law, bqM_dogs, TB_.w_pnm, TB_.w_par, TB_.w_dnm, TB_.w_persons, TB_.w_dishes, TB_.w_law, TB_.w_dogs, sqM_sl, sqM_so, SP_.w_sl, SP_.w_so, tqM_by_, tqM_wd, tqM_tk, tqM_pl, tqM_vl, tqM_len, tqM_n, tqM_at_, tqM_token, tqM_place, tqM_value, tqM_fault, tqM_fat, TP_.w_by_, TP_.w_wd, TP_.w_tk, TP_.w_pl, TP_.w_vl, TP_.w_len, TP_.w_n, TP_.w_at_, TP_.w_token, TP_.w_place, TP_.w_value, TP_.w_fault, TP_.w_fat])⟩ dX7_readAll_73
        · skip
          have n_31 : ¬ v_17 = 0 := h_29
          have r_32 := ne_lo (lo := 1) n_31 rv_17 rc_0 rfl (by decide)
          refine g_aload_n C 1 dX7_readAll_24 rfl rfl ?_
          obtain ⟨x_33, hx_33, rx_33⟩ := ex_get (I := I_12) (a := a0) (j := 8) (lo := (-2147483648)) (hi := 2147483647) hU_14.1 hLa0 (ro_o hka0 (by decide)) rfl
          have f_34 : s_22.token = x_33 := (congrArg TP_.token hs_22).symm.trans hx_33
          refine g_getI C K hLa0 hka0 f_7_57 (v := x_33) hx_33 dX7_readAll_25 ?_
          refine g_bipush C (v := 18) dX7_readAll_28 (by decide) ?_
          refine g_icmp_ne C (tgt := 71) dX7_readAll_30 (by decide) (fun h_35 => ?_) (fun h_35 => ?_)
          · skip
            have n_36 : ¬ x_33 = 18 := h_35
            refine g_iload C 4 dX7_readAll_71 rfl ?_
            exact g_zret (ty := .boolean) (r := v_17) B K rfl (nar_z (rg_w r_32 (by decide) (by decide))) ⟨hU_14, hF_15, hG_16, rg_w r_32 (by decide) (by decide), (by (try simp only [h_26, (nle h_26), h_29, hx_33, f_34, h_35, if_true, if_false, bqM_pnm, bqM_par, bqM_dnm, bqM_persons, bqM_dishes, bqM_law, bqM_dogs, TB_.w_pnm, TB_.w_par, TB_.w_dnm, TB_.w_persons, TB_.w_dishes, TB_.w_law, TB_.w_dogs, sqM_sl, sqM_so, SP_.w_sl, SP_.w_so, tqM_by_, tqM_wd, tqM_tk, tqM_pl, tqM_vl, tqM_len, tqM_n, tqM_at_, tqM_token, tqM_place, tqM_value, tqM_fault, tqM_fat, TP_.w_by_, TP_.w_wd, TP_.w_tk, TP_.w_pl, TP_.w_vl, TP_.w_len, TP_.w_n, TP_.w_at_, TP_.w_token, TP_.w_place, TP_.w_value, TP_.w_fault, TP_.w_fat] at hQ_24); (try simp only [h_26, (nle h_26), h_29, hx_33, f_34, h_35, if_true, if_false, bqM_pnm, bqM_par, bqM_dnm, bqM_persons, bqM_dishes, bqM_law, bqM_dogs, TB_.w_pnm, TB_.w_par, TB_.w_dnm, TB_.w_persons, TB_.w_dishes, TB_.w_law, TB_.w_dogs, sqM_sl, sqM_so, SP_.w_sl, SP_.w_so, tqM_by_, tqM_wd, tqM_tk, tqM_pl, tqM_vl, tqM_len, tqM_n, tqM_at_, tqM_token, tqM_place, tqM_value, tqM_fault, tqM_fat, TP_.w_by_, TP_.w_wd, TP_.w_tk, TP_.w_pl, TP_.w_vl, TP_.w_len, TP_.w_n, TP_.w_at_, TP_.w_token, TP_.w_place, TP_.w_value, TP_.w_fault, TP_.w_fat] at u_25); simp only [ebqa1, hs_21, hs_4, etqa0, hs_22, hs_10, esqx, hs_23, hs_11, hQ_24, u_25, h_26, (nle h_26), h_29, hx_33, f_34, h_35, if_true, if_false, bqM_pnm, bqM_par, bqM_dnm, bqM_persons, bqM_dishes, bqM_law, bqM_dogs, TB_.w_pnm, TB_.w_par, TB_.w_dnm, TB_.w_persons, TB_.w_dishes, TB_.w_law, TB_.w_dogs, sqM_sl, sqM_so, SP_.w_sl, SP_.w_so, tqM_by_, tqM_wd, tqM_tk, tqM_pl, tqM_vl, tqM_len, tqM_n, tqM_at_, tqM_token, tqM_place, tqM_value, tqM_fault, tqM_fat, TP_.w_by_, TP_.w_wd, TP_.w_tk, TP_.w_pl, TP_.w_vl, TP_.w_len, TP_.w_n, TP_.w_at_, TP_.w_token, TP_.w_place, TP_.w_value, TP_.w_fault, TP_.w_fat])⟩ dX7_readAll_73
          · skip
            have r_37 := (⟨(eq_rg (h_35) rc_18).1, (eq_rg (h_35) rc_18).2⟩ : Rg 18 18 x_33)
            refine g_aload_n C 1 dX7_readAll_33 rfl rfl ?_
            refine g_callVV C K (c_X10_advance W9 hLa0 hka0   hU_14) hLa0 hka0 (by decide) rfl v_7_60 rfl ⟨rfl, rfl⟩ ⟨Nat.le_of_ble_eq_true rfl, Nat.le_of_ble_eq_true rfl⟩ (Nat.le_of_ble_eq_true rfl) ⟨Nat.le_of_ble_eq_true rfl, Nat.le_of_ble_eq_true rfl⟩ dX7_readAll_34 rfl (st := []) (fun I_39 J_40 h_41 => ?_)
            obtain ⟨hUI_39, hFI_39, hGJ_40, fx_38⟩ := h_41
            have hF_42 := fq_tr hF_15 hFI_39 (by decide)
            have hG_43 := fq_tr hG_16 hGJ_40 (by decide)
            obtain ⟨s_45, hs_45⟩ : ∃ z, TPq I_39 J_40 a0 b_5 b_6 b_7 b_8 b_9 = z := ⟨_, rfl⟩
            have c_44 : fAdvance (s_22) = s_45 := by have q := fx_38; simp only [etqa0, hs_22, hs_45] at q; exact q.symm
            have hs_46 : TBq I_39 J_40 a1 b_1 b_2 b_3 = s_21 := (bq_fq wbqa1 hFI_39 hGJ_40 (by decide) (by decide)).trans hs_21
            have hs_47 : SPq I_39 J_40 x = s_23 := (sq_fq wsqx hFI_39 hGJ_40 (by decide) (by decide)).trans hs_23
            refine g_aload_n C 0 dX7_readAll_37 rfl rfl ?_
            refine g_aload_n C 1 dX7_readAll_38 rfl rfl ?_
            refine g_aload_n C 2 dX7_readAll_39 rfl rfl ?_
            refine g_iload_n C 3 dX7_readAll_40 rfl rfl ?_
            refine g_callVI C K (c_X7_readOne_3 W9 hLx hkx hLa0 hka0 hLa1 hka1 a2 (ra2) hUI_39) hLx hkx (by decide) rfl v_7_67 rfl ⟨rfl, rfl⟩ ⟨Nat.le_of_ble_eq_true rfl, Nat.le_of_ble_eq_true rfl⟩ (Nat.le_of_ble_eq_true rfl) ⟨Nat.le_of_ble_eq_true rfl, Nat.le_of_ble_eq_true rfl⟩ dX7_readAll_41 rfl (st := []) (fun x_48 I_49 J_50 h_51 => ?_)
            obtain ⟨hUI_49, hFI_49, hGJ_50, rx_48, fx_48⟩ := h_51
            have hF_52 := fq_tr hF_42 hFI_49 (by decide)
            have hG_53 := fq_tr hG_43 hGJ_50 (by decide)
            obtain ⟨s_55, hs_55⟩ : ∃ z, TPq I_49 J_50 a0 b_5 b_6 b_7 b_8 b_9 = z := ⟨_, rfl⟩
            obtain ⟨s_56, hs_56⟩ : ∃ z, SPq I_49 J_50 x = z := ⟨_, rfl⟩
            have c_54 : fOne 6 (s_21) (s_45) (s_23) = (x_48, s_55, s_56) := by have q := fx_48; simp only [ebqa1, etqa0, esqx, hs_46, hs_45, hs_47, hs_55, hs_56] at q; exact q.symm
            have hs_57 : TBq I_49 J_50 a1 b_1 b_2 b_3 = s_21 := (bq_fq wbqa1 hFI_49 hGJ_50 (by decide) (by decide)).trans hs_46
            refine g_if_eq C (tgt := 62) dX7_readAll_44 (by decide) (fun h_58 => ?_) (fun h_58 => ?_)
            · skip
              have r_59 := (⟨(rx_48).1, (eq_rg (h_58) rc_0).2⟩ : Rg 0 0 x_48)
              refine g_iconst C (v := 0) dX7_readAll_62 (by decide) ?_
              refine g_istore C dX7_readAll_63 (by decide) (lo2 := [(4, .int 0), (0, .ref x), (1, .ref a0), (2, .ref a1), (3, .int a2), (5, .int v_18)]) rfl ?_
              obtain ⟨x_60, hx_60, rx_60, tx_60⟩ := ex_add (y := 1) 1 20 r_28 rc_1 (by decide) (by decide) (by decide) (by decide)
              refine g_iinc C dX7_readAll_65 (k := 5) (v := x_60) rfl hx_60 (by decide) (lo2 := [(5, .int x_60), (4, .int 0), (0, .ref x), (1, .ref a0), (2, .ref a1), (3, .int a2)]) rfl ?_
              refine g_goto C (tgt := 12) dX7_readAll_68 (by decide) ?_
              refine g_lo (is := [2, 3, 4, 5, 1, 0]) (lo2 := [(0, .ref x), (1, .ref a0), (2, .ref a1), (3, .int a2), (4, .int 0), (5, .int x_60)]) rfl ?_
              exact ih_12 I_49 J_50 hUI_49 hF_52 hG_53 0 (rg_w rc_0 (by decide) (by decide)) x_60 (rg_w rx_60 (by decide) (by decide)) (by (try simp only [h_26, (nle h_26), h_29, hx_33, f_34, (eq_true h_35), c_44, c_54, (eq_true h_58), hx_60, if_true, if_false, bqM_pnm, bqM_par, bqM_dnm, bqM_persons, bqM_dishes, bqM_law, bqM_dogs, TB_.w_pnm, TB_.w_par, TB_.w_dnm, TB_.w_persons, TB_.w_dishes, TB_.w_law, TB_.w_dogs, sqM_sl, sqM_so, SP_.w_sl, SP_.w_so, tqM_by_, tqM_wd, tqM_tk, tqM_pl, tqM_vl, tqM_len, tqM_n, tqM_at_, tqM_token, tqM_place, tqM_value, tqM_fault, tqM_fat, TP_.w_by_, TP_.w_wd, TP_.w_tk, TP_.w_pl, TP_.w_vl, TP_.w_len, TP_.w_n, TP_.w_at_, TP_.w_token, TP_.w_place, TP_.w_value, TP_.w_fault, TP_.w_fat] at hQ_24); (try simp only [h_26, (nle h_26), h_29, hx_33, f_34, (eq_true h_35), c_44, c_54, (eq_true h_58), hx_60, if_true, if_false, bqM_pnm, bqM_par, bqM_dnm, bqM_persons, bqM_dishes, bqM_law, bqM_dogs, TB_.w_pnm, TB_.w_par, TB_.w_dnm, TB_.w_persons, TB_.w_dishes, TB_.w_law, TB_.w_dogs, sqM_sl, sqM_so, SP_.w_sl, SP_.w_so, tqM_by_, tqM_wd, tqM_tk, tqM_pl, tqM_vl, tqM_len, tqM_n, tqM_at_, tqM_token, tqM_place, tqM_value, tqM_fault, tqM_fat, TP_.w_by_, TP_.w_wd, TP_.w_tk, TP_.w_pl, TP_.w_vl, TP_.w_len, TP_.w_n, TP_.w_at_, TP_.w_token, TP_.w_place, TP_.w_value, TP_.w_fault, TP_.w_fat] at u_25); simp only [ebqa1, hs_57, hs_4, etqa0, hs_55, hs_10, esqx, hs_56, hs_11, hQ_24, u_25, h_26, (nle h_26), h_29, hx_33, f_34, (eq_true h_35), c_44, c_54, (eq_true h_58), hx_60, if_true, if_false, bqM_pnm, bqM_par, bqM_dnm, bqM_persons, bqM_dishes, bqM_law, bqM_dogs, TB_.w_pnm, TB_.w_par, TB_.w_dnm, TB_.w_persons, TB_.w_dishes, TB_.w_law, TB_.w_dogs, sqM_sl, sqM_so, SP_.w_sl, SP_.w_so, tqM_by_, tqM_wd, tqM_tk, tqM_pl, tqM_vl, tqM_len, tqM_n, tqM_at_, tqM_token, tqM_place, tqM_value, tqM_fault, tqM_fat, TP_.w_by_, TP_.w_wd, TP_.w_tk, TP_.w_pl, TP_.w_vl, TP_.w_len, TP_.w_n, TP_.w_at_, TP_.w_token, TP_.w_place, TP_.w_value, TP_.w_fault, TP_.w_fat]) (ms_1 hm_20 (ti_k tx_60 rc_1) (by decide))
            · skip
              have n_61 : ¬ x_48 = 0 := h_58
              have r_62 := ne_lo (lo := 1) n_61 rx_48 rc_0 rfl (by decide)
              refine g_aload_n C 0 dX7_readAll_47 rfl rfl ?_
              refine g_bipush C (v := 18) dX7_readAll_48 (by decide) ?_
              refine g_iconst C (v := 0) dX7_readAll_50 (by decide) ?_
              refine g_iconst C (v := 0) dX7_readAll_51 (by decide) ?_
              refine g_callVI C K (c_X7_addStep W9 hLx hkx 18 0 0 (rg_w rc_0 (by decide) (by decide)) hUI_49  (fun q => absurd q (by decide))) hLx hkx (by decide) rfl v_7_63 rfl ⟨rfl, rfl⟩ ⟨Nat.le_of_ble_eq_true rfl, Nat.le_of_ble_eq_true rfl⟩ (Nat.le_of_ble_eq_true rfl) ⟨Nat.le_of_ble_eq_true rfl, Nat.le_of_ble_eq_true rfl⟩ dX7_readAll_52 rfl (st := []) (fun x_63 I_64 J_65 h_66 => ?_)
              obtain ⟨hUI_64, hFI_64, hGJ_65, rx_63, fx_63⟩ := h_66
              have hF_67 := fq_tr hF_52 hFI_64 (by decide)
              have hG_68 := fq_tr hG_53 hGJ_65 (by decide)
              obtain ⟨s_70, hs_70⟩ : ∃ z, SPq I_64 J_65 x = z := ⟨_, rfl⟩
              have c_69 : fAddStep (s_56) = (x_63, s_70) := by have q := fx_63; simp only [esqx, hs_56, hs_70] at q; exact q.symm
              have hs_71 : TBq I_64 J_65 a1 b_1 b_2 b_3 = s_21 := (bq_fq wbqa1 hFI_64 hGJ_65 (by decide) (by decide)).trans hs_57
              have hs_72 : TPq I_64 J_65 a0 b_5 b_6 b_7 b_8 b_9 = s_55 := (tq_fq wtqa0 hFI_64 hGJ_65 (by decide) (by decide)).trans hs_55
              refine g_if_eq C (tgt := 62) dX7_readAll_55 (by decide) (fun h_73 => ?_) (fun h_73 => ?_)
              · skip
                have r_74 := (⟨(rx_63).1, (eq_rg (h_73) rc_0).2⟩ : Rg 0 0 x_63)
                refine g_iconst C (v := 0) dX7_readAll_62 (by decide) ?_
                refine g_istore C dX7_readAll_63 (by decide) (lo2 := [(4, .int 0), (0, .ref x), (1, .ref a0), (2, .ref a1), (3, .int a2), (5, .int v_18)]) rfl ?_
                obtain ⟨x_75, hx_75, rx_75, tx_75⟩ := ex_add (y := 1) 1 20 r_28 rc_1 (by decide) (by decide) (by decide) (by decide)
                refine g_iinc C dX7_readAll_65 (k := 5) (v := x_75) rfl hx_75 (by decide) (lo2 := [(5, .int x_75), (4, .int 0), (0, .ref x), (1, .ref a0), (2, .ref a1), (3, .int a2)]) rfl ?_
                refine g_goto C (tgt := 12) dX7_readAll_68 (by decide) ?_
                refine g_lo (is := [2, 3, 4, 5, 1, 0]) (lo2 := [(0, .ref x), (1, .ref a0), (2, .ref a1), (3, .int a2), (4, .int 0), (5, .int x_75)]) rfl ?_
                exact ih_12 I_64 J_65 hUI_64 hF_67 hG_68 0 (rg_w rc_0 (by decide) (by decide)) x_75 (rg_w rx_75 (by decide) (by decide)) (by (try simp only [h_26, (nle h_26), h_29, hx_33, f_34, (eq_true h_35), c_44, c_54, h_58, c_69, (eq_true h_73), hx_75, if_true, if_false, bqM_pnm, bqM_par, bqM_dnm, bqM_persons, bqM_dishes, bqM_law, bqM_dogs, TB_.w_pnm, TB_.w_par, TB_.w_dnm, TB_.w_persons, TB_.w_dishes, TB_.w_law, TB_.w_dogs, sqM_sl, sqM_so, SP_.w_sl, SP_.w_so, tqM_by_, tqM_wd, tqM_tk, tqM_pl, tqM_vl, tqM_len, tqM_n, tqM_at_, tqM_token, tqM_place, tqM_value, tqM_fault, tqM_fat, TP_.w_by_, TP_.w_wd, TP_.w_tk, TP_.w_pl, TP_.w_vl, TP_.w_len, TP_.w_n, TP_.w_at_, TP_.w_token, TP_.w_place, TP_.w_value, TP_.w_fault, TP_.w_fat] at hQ_24); (try simp only [h_26, (nle h_26), h_29, hx_33, f_34, (eq_true h_35), c_44, c_54, h_58, c_69, (eq_true h_73), hx_75, if_true, if_false, bqM_pnm, bqM_par, bqM_dnm, bqM_persons, bqM_dishes, bqM_law, bqM_dogs, TB_.w_pnm, TB_.w_par, TB_.w_dnm, TB_.w_persons, TB_.w_dishes, TB_.w_law, TB_.w_dogs, sqM_sl, sqM_so, SP_.w_sl, SP_.w_so, tqM_by_, tqM_wd, tqM_tk, tqM_pl, tqM_vl, tqM_len, tqM_n, tqM_at_, tqM_token, tqM_place, tqM_value, tqM_fault, tqM_fat, TP_.w_by_, TP_.w_wd, TP_.w_tk, TP_.w_pl, TP_.w_vl, TP_.w_len, TP_.w_n, TP_.w_at_, TP_.w_token, TP_.w_place, TP_.w_value, TP_.w_fault, TP_.w_fat] at u_25); simp only [ebqa1, hs_71, hs_4, etqa0, hs_72, hs_10, esqx, hs_70, hs_11, hQ_24, u_25, h_26, (nle h_26), h_29, hx_33, f_34, (eq_true h_35), c_44, c_54, h_58, c_69, (eq_true h_73), hx_75, if_true, if_false, bqM_pnm, bqM_par, bqM_dnm, bqM_persons, bqM_dishes, bqM_law, bqM_dogs, TB_.w_pnm, TB_.w_par, TB_.w_dnm, TB_.w_persons, TB_.w_dishes, TB_.w_law, TB_.w_dogs, sqM_sl, sqM_so, SP_.w_sl, SP_.w_so, tqM_by_, tqM_wd, tqM_tk, tqM_pl, tqM_vl, tqM_len, tqM_n, tqM_at_, tqM_token, tqM_place, tqM_value, tqM_fault, tqM_fat, TP_.w_by_, TP_.w_wd, TP_.w_tk, TP_.w_pl, TP_.w_vl, TP_.w_len, TP_.w_n, TP_.w_at_, TP_.w_token, TP_.w_place, TP_.w_value, TP_.w_fault, TP_.w_fat]) (ms_1 hm_20 (ti_k tx_75 rc_1) (by decide))
              · skip
                have n_76 : ¬ x_63 = 0 := h_73
                have r_77 := ne_lo (lo := 1) n_76 rx_63 rc_0 rfl (by decide)
                refine g_iconst C (v := 1) dX7_readAll_58 (by decide) ?_
                refine g_goto C (tgt := 63) dX7_readAll_59 (by decide) ?_
                refine g_istore C dX7_readAll_63 (by decide) (lo2 := [(4, .int 1), (0, .ref x), (1, .ref a0), (2, .ref a1), (3, .int a2), (5, .int v_18)]) rfl ?_
                obtain ⟨x_78, hx_78, rx_78, tx_78⟩ := ex_add (y := 1) 1 20 r_28 rc_1 (by decide) (by decide) (by decide) (by decide)
                refine g_iinc C dX7_readAll_65 (k := 5) (v := x_78) rfl hx_78 (by decide) (lo2 := [(5, .int x_78), (4, .int 1), (0, .ref x), (1, .ref a0), (2, .ref a1), (3, .int a2)]) rfl ?_
                refine g_goto C (tgt := 12) dX7_readAll_68 (by decide) ?_
                refine g_lo (is := [2, 3, 4, 5, 1, 0]) (lo2 := [(0, .ref x), (1, .ref a0), (2, .ref a1), (3, .int a2), (4, .int 1), (5, .int x_78)]) rfl ?_
                exact ih_12 I_64 J_65 hUI_64 hF_67 hG_68 1 (rg_w rc_1 (by decide) (by decide)) x_78 (rg_w rx_78 (by decide) (by decide)) (by (try simp only [h_26, (nle h_26), h_29, hx_33, f_34, (eq_true h_35), c_44, c_54, h_58, c_69, h_73, hx_78, if_true, if_false, bqM_pnm, bqM_par, bqM_dnm, bqM_persons, bqM_dishes, bqM_law, bqM_dogs, TB_.w_pnm, TB_.w_par, TB_.w_dnm, TB_.w_persons, TB_.w_dishes, TB_.w_law, TB_.w_dogs, sqM_sl, sqM_so, SP_.w_sl, SP_.w_so, tqM_by_, tqM_wd, tqM_tk, tqM_pl, tqM_vl, tqM_len, tqM_n, tqM_at_, tqM_token, tqM_place, tqM_value, tqM_fault, tqM_fat, TP_.w_by_, TP_.w_wd, TP_.w_tk, TP_.w_pl, TP_.w_vl, TP_.w_len, TP_.w_n, TP_.w_at_, TP_.w_token, TP_.w_place, TP_.w_value, TP_.w_fault, TP_.w_fat] at hQ_24); (try simp only [h_26, (nle h_26), h_29, hx_33, f_34, (eq_true h_35), c_44, c_54, h_58, c_69, h_73, hx_78, if_true, if_false, bqM_pnm, bqM_par, bqM_dnm, bqM_persons, bqM_dishes, bqM_law, bqM_dogs, TB_.w_pnm, TB_.w_par, TB_.w_dnm, TB_.w_persons, TB_.w_dishes, TB_.w_law, TB_.w_dogs, sqM_sl, sqM_so, SP_.w_sl, SP_.w_so, tqM_by_, tqM_wd, tqM_tk, tqM_pl, tqM_vl, tqM_len, tqM_n, tqM_at_, tqM_token, tqM_place, tqM_value, tqM_fault, tqM_fat, TP_.w_by_, TP_.w_wd, TP_.w_tk, TP_.w_pl, TP_.w_vl, TP_.w_len, TP_.w_n, TP_.w_at_, TP_.w_token, TP_.w_place, TP_.w_value, TP_.w_fault, TP_.w_fat] at u_25); simp only [ebqa1, hs_71, hs_4, etqa0, hs_72, hs_10, esqx, hs_70, hs_11, hQ_24, u_25, h_26, (nle h_26), h_29, hx_33, f_34, (eq_true h_35), c_44, c_54, h_58, c_69, h_73, hx_78, if_true, if_false, bqM_pnm, bqM_par, bqM_dnm, bqM_persons, bqM_dishes, bqM_law, bqM_dogs, TB_.w_pnm, TB_.w_par, TB_.w_dnm, TB_.w_persons, TB_.w_dishes, TB_.w_law, TB_.w_dogs, sqM_sl, sqM_so, SP_.w_sl, SP_.w_so, tqM_by_, tqM_wd, tqM_tk, tqM_pl, tqM_vl, tqM_len, tqM_n, tqM_at_, tqM_token, tqM_place, tqM_value, tqM_fault, tqM_fat, TP_.w_by_, TP_.w_wd, TP_.w_tk, TP_.w_pl, TP_.w_vl, TP_.w_len, TP_.w_n, TP_.w_at_, TP_.w_token, TP_.w_place, TP_.w_value, TP_.w_fault, TP_.w_fat]) (ms_1 hm_20 (ti_k tx_78 rc_1) (by decide))
  refine g_aload_n C 0 dX7_readAll_0 rfl rfl ?_
  refine g_aload_n C 1 dX7_readAll_1 rfl rfl ?_
  refine g_aload_n C 2 dX7_readAll_2 rfl rfl ?_
  refine g_iload_n C 3 dX7_readAll_3 rfl rfl ?_
  refine g_callVI C K (c_X7_readOne_3 W9 hLx hkx hLa0 hka0 hLa1 hka1 a2 (ra2) hU) hLx hkx (by decide) rfl v_7_67 rfl ⟨rfl, rfl⟩ ⟨Nat.le_of_ble_eq_true rfl, Nat.le_of_ble_eq_true rfl⟩ (Nat.le_of_ble_eq_true rfl) ⟨Nat.le_of_ble_eq_true rfl, Nat.le_of_ble_eq_true rfl⟩ dX7_readAll_4 rfl (st := []) (fun x_79 I_80 J_81 h_82 => ?_)
  obtain ⟨hUI_80, hFI_80, hGJ_81, rx_79, fx_79⟩ := h_82
  have hF_83 := fq_tr hF hFI_80 (by decide)
  have hG_84 := fq_tr hG hGJ_81 (by decide)
  obtain ⟨s_86, hs_86⟩ : ∃ z, TPq I_80 J_81 a0 b_5 b_6 b_7 b_8 b_9 = z := ⟨_, rfl⟩
  obtain ⟨s_87, hs_87⟩ : ∃ z, SPq I_80 J_81 x = z := ⟨_, rfl⟩
  have c_85 : fOne 6 (s_4) (s_10) (s_11) = (x_79, s_86, s_87) := by have q := fx_79; simp only [ebqa1, etqa0, esqx, hs_4, hs_10, hs_11, hs_86, hs_87] at q; exact q.symm
  have hs_88 : TBq I_80 J_81 a1 b_1 b_2 b_3 = s_4 := (bq_fq wbqa1 hFI_80 hGJ_81 (by decide) (by decide)).trans hs_4
  refine g_istore C dX7_readAll_7 (by decide) (lo2 := [(4, .int x_79), (0, .ref x), (1, .ref a0), (2, .ref a1), (3, .int a2)]) rfl ?_
  refine g_iconst C (v := 0) dX7_readAll_9 (by decide) ?_
  refine g_istore C dX7_readAll_10 (by decide) (lo2 := [(5, .int 0), (4, .int x_79), (0, .ref x), (1, .ref a0), (2, .ref a1), (3, .int a2)]) rfl ?_
  refine g_lo (is := [2, 3, 4, 5, 1, 0]) (lo2 := [(0, .ref x), (1, .ref a0), (2, .ref a1), (3, .int a2), (4, .int x_79), (5, .int 0)]) rfl ?_
  exact l_12 21 I_80 J_81 hUI_80 hF_83 hG_84 x_79 (rx_79) 0 (rg_w rc_0 (by decide) (by decide)) (by simp only [fAll, ebqa1, hs_88, hs_4, etqa0, hs_86, hs_10, esqx, hs_87, hs_11, c_85, if_true, if_false, bqM_pnm, bqM_par, bqM_dnm, bqM_persons, bqM_dishes, bqM_law, bqM_dogs, TB_.w_pnm, TB_.w_par, TB_.w_dnm, TB_.w_persons, TB_.w_dishes, TB_.w_law, TB_.w_dogs, sqM_sl, sqM_so, SP_.w_sl, SP_.w_so, tqM_by_, tqM_wd, tqM_tk, tqM_pl, tqM_vl, tqM_len, tqM_n, tqM_at_, tqM_token, tqM_place, tqM_value, tqM_fault, tqM_fat, TP_.w_by_, TP_.w_wd, TP_.w_tk, TP_.w_pl, TP_.w_vl, TP_.w_len, TP_.w_n, TP_.w_at_, TP_.w_token, TP_.w_place, TP_.w_value, TP_.w_fault, TP_.w_fat]) (ms_s (a := 0) (b := 20) (N := 21) (rg_w rc_0 (by decide) (by decide)) (by decide))
