set_option maxRecDepth 100000 in
set_option maxHeartbeats 8000000 in
theorem c_X10_add_e {l : Launch} {D : va_G} {cy : Nat → ClassId} {L : List Nat} {κ ln : Nat → Nat} {R : Nat → Nat → Option Nat} {I : Nat → Nat → Int32} {J : Nat → Nat → Int64} {ow : Nat → Nat × Nat} (W9 : ∀ a ∈ L, Shp L κ ln R ow a) {x : Nat} (hLx : x ∈ L) (hkx : κ x = 10) (a0 : Int32) (hU : Iv L κ R ow I) (hp0 : Rg 0 936 (I x 5)) : CtV l yX10_add cX10_add 3 none { frames := 0, cells := 0, slots := 0, locals := 0 } D cy L κ ln R I J [.ref x, .int a0] (fun I2 J2 => Iv L κ R ow I2 ∧ Fq L κ ow [1005, 70000] I I2 ∧ Fq L κ ow [] J J2 ∧ (TPf R I2 J2 x = fAdd a0 (TPf R I J x)) ∧ ((I2 x 5).toInt = (I x 5).toInt + 4)) := by
  refine CtV.of (by decide +kernel) (Nat.le_of_ble_eq_true rfl) ?_
  intro p e s m below meth c B K
  have C := B.1
  have hF : Fq L κ ow [1005, 70000] I I := fq_rf
  have hG : Fq L κ ow [] J J := fq_rf
  obtain ⟨xp0, hxp0, rxp0⟩ : ∃ z, I x 5 = z ∧ Rg 0 936 z := ⟨_, rfl, hp0⟩
  obtain ⟨b_1, hb_1, hb_1L, hb_1k, hb_1n, hb_1o⟩ := shp_a (W9 x hLx) hkx 0 13 940 rfl (by decide)
  obtain ⟨b_2, hb_2, hb_2L, hb_2k, hb_2n, hb_2o⟩ := shp_a (W9 x hLx) hkx 1 15 28 rfl (by decide)
  obtain ⟨b_3, hb_3, hb_3L, hb_3k, hb_3n, hb_3o⟩ := shp_a (W9 x hLx) hkx 2 14 901 rfl (by decide)
  obtain ⟨b_4, hb_4, hb_4L, hb_4k, hb_4n, hb_4o⟩ := shp_a (W9 x hLx) hkx 3 14 901 rfl (by decide)
  obtain ⟨b_5, hb_5, hb_5L, hb_5k, hb_5n, hb_5o⟩ := shp_a (W9 x hLx) hkx 4 15 901 rfl (by decide)
  have etqx : ∀ I J, TPf R I J x = TPq I J x b_1 b_2 b_3 b_4 b_5 := fun I J => by simp only [TPf, rr_, Option.getD_some, hb_1, hb_2, hb_3, hb_4, hb_5]
  have wtqx : tqw_ L κ ow x b_1 b_2 b_3 b_4 b_5 := ⟨⟨hLx, hb_1L, hb_2L, hb_3L, hb_4L, hb_5L⟩, ⟨(ro_o hkx (by decide)), (ro_a hb_1k (by decide) hb_1o hkx rfl), (ro_a hb_2k (by decide) hb_2o hkx rfl), (ro_a hb_3k (by decide) hb_3o hkx rfl), (ro_a hb_4k (by decide) hb_4o hkx rfl), (ro_a hb_5k (by decide) hb_5o hkx rfl)⟩⟩
  obtain ⟨s_6, hs_6⟩ : ∃ z, TPq I J x b_1 b_2 b_3 b_4 b_5 = z := ⟨_, rfl⟩
  refine g_lo (is := [0, 1]) (lo2 := [(0, .ref x), (1, .int a0)]) rfl ?_
  refine g_bipush C (v := 24) dX10_add_0 (by decide) ?_
  refine g_istore_n C dX10_add_2 rfl (by decide) (lo2 := [(2, .int 24), (0, .ref x), (1, .int a0)]) rfl ?_
  refine g_iload_n C 0 dX10_add_3 rfl rfl ?_
  refine g_if_lt C (tgt := 48) dX10_add_4 (by decide) (fun h_7 => ?_) (fun h_7 => ?_)
  · skip
    exact absurd (h_7) (by decide)
  · skip
    refine g_aload_n C 1 dX10_add_7 rfl rfl ?_
    have f_8 : s_6.len = xp0 := (congrArg TP_.len hs_6).symm.trans hxp0
    refine g_getI C K hLx hkx f_10_29 (v := xp0) hxp0 dX10_add_8 ?_
    refine g_aload_n C 1 dX10_add_11 rfl rfl ?_
    refine g_getR C K hLx hkx f_10_9 hb_1 dX10_add_12 ?_
    refine g_alenB C K hb_1L hb_1k (v := 940) (by rw [hb_1n]; rfl) dX10_add_15 ?_
    refine g_icmp_ge C (tgt := 48) dX10_add_16 (by decide) (fun h_9 => ?_) (fun h_9 => ?_)
    · skip
      have r_10 := le_r (h_9) rc_940 rxp0
      exact rg_no r_10 (by decide)
    · skip
      refine g_aload_n C 1 dX10_add_19 rfl rfl ?_
      refine g_getR C K hLx hkx f_10_9 hb_1 dX10_add_20 ?_
      refine g_aload_n C 1 dX10_add_23 rfl rfl ?_
      refine g_getI C K hLx hkx f_10_29 (v := xp0) hxp0 dX10_add_24 ?_
      refine g_iload_n C 2 dX10_add_27 rfl rfl ?_
      refine g_iload_n C 0 dX10_add_28 rfl rfl ?_
      obtain ⟨x_11, hx_11, rx_11⟩ := ex_any (z0 := a0 >>> (24 &&& 31))
      refine g_ishr C (v := x_11) dX10_add_29 hx_11 ?_
      obtain ⟨x_12, hx_12, rx_12⟩ := ex_b2 (x := x_11)
      refine g_i2b C (v := x_12) dX10_add_30 hx_12 ?_
      refine h_bast C K hb_1L hb_1k (xp0.toNatClampNeg) (rfl) (ix_0 rxp0 (by decide)) (ix_lt rxp0 (by decide) hb_1n (by decide)) dX10_add_31 (fun I_13 hI_13 => ?_)
      have hU_14 := iv_put W9 hU hI_13 (ro_a hb_1k (by decide) hb_1o hkx rfl) (lo := (-128)) (hi := 127) (rfl) (nar_b _) rfl
      have hF_15 := fq_puta hF hI_13 (ro_a hb_1k (by decide) hb_1o hkx rfl) (by decide) (by decide)
      have hs_16 : TPq I_13 J x b_1 b_2 b_3 b_4 b_5 = (TP_.w_by_ s_6 (up1 (s_6.by_) (xp0.toNatClampNeg) ((vp_nar .byte x_12)))) := by rw [hI_13]; exact ((tq_by_ wtqx).trans (congrArg (fun z : TP_ => TP_.w_by_ z (up1 (z.by_) (xp0.toNatClampNeg) ((vp_nar .byte x_12)))) hs_6)).trans rfl
      refine g_aload_n C 1 dX10_add_32 rfl rfl ?_
      refine g_dup C dX10_add_33 rfl ?_
      refine g_getI C K hLx hkx f_10_29 (v := xp0) (kp_k (κ := κ) hI_13 (by rw [hkx, hb_1k]; decide) hxp0) dX10_add_34 ?_
      refine g_iconst C (v := 1) dX10_add_37 (by decide) ?_
      obtain ⟨x_17, hx_17, rx_17, tx_17⟩ := ex_add 1 937 rxp0 rc_1 (by decide) (by decide) (by decide) (by decide)
      refine g_iadd C (v := x_17) dX10_add_38 hx_17 ?_
      refine h_putI C K hLx hkx f_10_29 p_10_5 dX10_add_39 (fun I_18 hI_18 => ?_)
      have hU_19 := iv_put W9 hU_14 hI_18 (ro_o hkx (by decide)) (lo := 0) (hi := 940) (rfl) (rg_w rx_17 (by decide) (by decide)) rfl
      have hF_20 := fq_puto hF_15 hI_18 hkx (by decide) (by decide)
      have hs_21 : TPq I_18 J x b_1 b_2 b_3 b_4 b_5 = (TP_.w_len (TP_.w_by_ s_6 (up1 (s_6.by_) (xp0.toNatClampNeg) ((vp_nar .byte x_12)))) (x_17)) := by rw [hI_18]; exact ((tq_len wtqx).trans (congrArg (fun z : TP_ => TP_.w_len z (x_17)) hs_16)).trans rfl
      refine g_iinc C dX10_add_42 (k := 0) (v := 16) rfl (by decide) (by decide) (lo2 := [(2, .int 16), (0, .ref x), (1, .int a0)]) rfl ?_
      refine g_goto C (tgt := 3) dX10_add_45 (by decide) ?_
      refine g_iload_n C 0 dX10_add_3 rfl rfl ?_
      refine g_if_lt C (tgt := 48) dX10_add_4 (by decide) (fun h_22 => ?_) (fun h_22 => ?_)
      · skip
        exact absurd (h_22) (by decide)
      · skip
        refine g_aload_n C 1 dX10_add_7 rfl rfl ?_
        refine g_getI C K hLx hkx f_10_29 (v := x_17) (kp_s hI_18) dX10_add_8 ?_
        refine g_aload_n C 1 dX10_add_11 rfl rfl ?_
        refine g_getR C K hLx hkx f_10_9 hb_1 dX10_add_12 ?_
        refine g_alenB C K hb_1L hb_1k (v := 940) (by rw [hb_1n]; rfl) dX10_add_15 ?_
        refine g_icmp_ge C (tgt := 48) dX10_add_16 (by decide) (fun h_23 => ?_) (fun h_23 => ?_)
        · skip
          have r_24 := le_r (h_23) rc_940 rx_17
          exact rg_no r_24 (by decide)
        · skip
          refine g_aload_n C 1 dX10_add_19 rfl rfl ?_
          refine g_getR C K hLx hkx f_10_9 hb_1 dX10_add_20 ?_
          refine g_aload_n C 1 dX10_add_23 rfl rfl ?_
          refine g_getI C K hLx hkx f_10_29 (v := x_17) (kp_s hI_18) dX10_add_24 ?_
          refine g_iload_n C 2 dX10_add_27 rfl rfl ?_
          refine g_iload_n C 0 dX10_add_28 rfl rfl ?_
          obtain ⟨x_25, hx_25, rx_25⟩ := ex_any (z0 := a0 >>> (16 &&& 31))
          refine g_ishr C (v := x_25) dX10_add_29 hx_25 ?_
          obtain ⟨x_26, hx_26, rx_26⟩ := ex_b2 (x := x_25)
          refine g_i2b C (v := x_26) dX10_add_30 hx_26 ?_
          refine h_bast C K hb_1L hb_1k (x_17.toNatClampNeg) (rfl) (ix_0 rx_17 (by decide)) (ix_lt rx_17 (by decide) hb_1n (by decide)) dX10_add_31 (fun I_27 hI_27 => ?_)
          have hU_28 := iv_put W9 hU_19 hI_27 (ro_a hb_1k (by decide) hb_1o hkx rfl) (lo := (-128)) (hi := 127) (rfl) (nar_b _) rfl
          have hF_29 := fq_puta hF_20 hI_27 (ro_a hb_1k (by decide) hb_1o hkx rfl) (by decide) (by decide)
          have hs_30 : TPq I_27 J x b_1 b_2 b_3 b_4 b_5 = (TP_.w_by_ (TP_.w_len s_6 (x_17)) (up1 (up1 (s_6.by_) (xp0.toNatClampNeg) ((vp_nar .byte x_12))) (x_17.toNatClampNeg) ((vp_nar .byte x_26)))) := by rw [hI_27]; exact ((tq_by_ wtqx).trans (congrArg (fun z : TP_ => TP_.w_by_ z (up1 (z.by_) (x_17.toNatClampNeg) ((vp_nar .byte x_26)))) hs_21)).trans rfl
          refine g_aload_n C 1 dX10_add_32 rfl rfl ?_
          refine g_dup C dX10_add_33 rfl ?_
          refine g_getI C K hLx hkx f_10_29 (v := x_17) (kp_k (κ := κ) hI_27 (by rw [hkx, hb_1k]; decide) (kp_s hI_18)) dX10_add_34 ?_
          refine g_iconst C (v := 1) dX10_add_37 (by decide) ?_
          obtain ⟨x_31, hx_31, rx_31, tx_31⟩ := ex_add 2 938 rx_17 rc_1 (by decide) (by decide) (by decide) (by decide)
          refine g_iadd C (v := x_31) dX10_add_38 hx_31 ?_
          refine h_putI C K hLx hkx f_10_29 p_10_5 dX10_add_39 (fun I_32 hI_32 => ?_)
          have hU_33 := iv_put W9 hU_28 hI_32 (ro_o hkx (by decide)) (lo := 0) (hi := 940) (rfl) (rg_w rx_31 (by decide) (by decide)) rfl
          have hF_34 := fq_puto hF_29 hI_32 hkx (by decide) (by decide)
          have hs_35 : TPq I_32 J x b_1 b_2 b_3 b_4 b_5 = (TP_.w_len (TP_.w_by_ s_6 (up1 (up1 (s_6.by_) (xp0.toNatClampNeg) ((vp_nar .byte x_12))) (x_17.toNatClampNeg) ((vp_nar .byte x_26)))) (x_31)) := by rw [hI_32]; exact ((tq_len wtqx).trans (congrArg (fun z : TP_ => TP_.w_len z (x_31)) hs_30)).trans rfl
          refine g_iinc C dX10_add_42 (k := 0) (v := 8) rfl (by decide) (by decide) (lo2 := [(2, .int 8), (0, .ref x), (1, .int a0)]) rfl ?_
          refine g_goto C (tgt := 3) dX10_add_45 (by decide) ?_
          refine g_iload_n C 0 dX10_add_3 rfl rfl ?_
          refine g_if_lt C (tgt := 48) dX10_add_4 (by decide) (fun h_36 => ?_) (fun h_36 => ?_)
          · skip
            exact absurd (h_36) (by decide)
          · skip
            refine g_aload_n C 1 dX10_add_7 rfl rfl ?_
            refine g_getI C K hLx hkx f_10_29 (v := x_31) (kp_s hI_32) dX10_add_8 ?_
            refine g_aload_n C 1 dX10_add_11 rfl rfl ?_
            refine g_getR C K hLx hkx f_10_9 hb_1 dX10_add_12 ?_
            refine g_alenB C K hb_1L hb_1k (v := 940) (by rw [hb_1n]; rfl) dX10_add_15 ?_
            refine g_icmp_ge C (tgt := 48) dX10_add_16 (by decide) (fun h_37 => ?_) (fun h_37 => ?_)
            · skip
              have r_38 := le_r (h_37) rc_940 rx_31
              exact rg_no r_38 (by decide)
            · skip
              refine g_aload_n C 1 dX10_add_19 rfl rfl ?_
              refine g_getR C K hLx hkx f_10_9 hb_1 dX10_add_20 ?_
              refine g_aload_n C 1 dX10_add_23 rfl rfl ?_
              refine g_getI C K hLx hkx f_10_29 (v := x_31) (kp_s hI_32) dX10_add_24 ?_
              refine g_iload_n C 2 dX10_add_27 rfl rfl ?_
              refine g_iload_n C 0 dX10_add_28 rfl rfl ?_
              obtain ⟨x_39, hx_39, rx_39⟩ := ex_any (z0 := a0 >>> (8 &&& 31))
              refine g_ishr C (v := x_39) dX10_add_29 hx_39 ?_
              obtain ⟨x_40, hx_40, rx_40⟩ := ex_b2 (x := x_39)
              refine g_i2b C (v := x_40) dX10_add_30 hx_40 ?_
              refine h_bast C K hb_1L hb_1k (x_31.toNatClampNeg) (rfl) (ix_0 rx_31 (by decide)) (ix_lt rx_31 (by decide) hb_1n (by decide)) dX10_add_31 (fun I_41 hI_41 => ?_)
              have hU_42 := iv_put W9 hU_33 hI_41 (ro_a hb_1k (by decide) hb_1o hkx rfl) (lo := (-128)) (hi := 127) (rfl) (nar_b _) rfl
              have hF_43 := fq_puta hF_34 hI_41 (ro_a hb_1k (by decide) hb_1o hkx rfl) (by decide) (by decide)
              have hs_44 : TPq I_41 J x b_1 b_2 b_3 b_4 b_5 = (TP_.w_by_ (TP_.w_len s_6 (x_31)) (up1 (up1 (up1 (s_6.by_) (xp0.toNatClampNeg) ((vp_nar .byte x_12))) (x_17.toNatClampNeg) ((vp_nar .byte x_26))) (x_31.toNatClampNeg) ((vp_nar .byte x_40)))) := by rw [hI_41]; exact ((tq_by_ wtqx).trans (congrArg (fun z : TP_ => TP_.w_by_ z (up1 (z.by_) (x_31.toNatClampNeg) ((vp_nar .byte x_40)))) hs_35)).trans rfl
              refine g_aload_n C 1 dX10_add_32 rfl rfl ?_
              refine g_dup C dX10_add_33 rfl ?_
              refine g_getI C K hLx hkx f_10_29 (v := x_31) (kp_k (κ := κ) hI_41 (by rw [hkx, hb_1k]; decide) (kp_s hI_32)) dX10_add_34 ?_
              refine g_iconst C (v := 1) dX10_add_37 (by decide) ?_
              obtain ⟨x_45, hx_45, rx_45, tx_45⟩ := ex_add 3 939 rx_31 rc_1 (by decide) (by decide) (by decide) (by decide)
              refine g_iadd C (v := x_45) dX10_add_38 hx_45 ?_
              refine h_putI C K hLx hkx f_10_29 p_10_5 dX10_add_39 (fun I_46 hI_46 => ?_)
              have hU_47 := iv_put W9 hU_42 hI_46 (ro_o hkx (by decide)) (lo := 0) (hi := 940) (rfl) (rg_w rx_45 (by decide) (by decide)) rfl
              have hF_48 := fq_puto hF_43 hI_46 hkx (by decide) (by decide)
              have hs_49 : TPq I_46 J x b_1 b_2 b_3 b_4 b_5 = (TP_.w_len (TP_.w_by_ s_6 (up1 (up1 (up1 (s_6.by_) (xp0.toNatClampNeg) ((vp_nar .byte x_12))) (x_17.toNatClampNeg) ((vp_nar .byte x_26))) (x_31.toNatClampNeg) ((vp_nar .byte x_40)))) (x_45)) := by rw [hI_46]; exact ((tq_len wtqx).trans (congrArg (fun z : TP_ => TP_.w_len z (x_45)) hs_44)).trans rfl
              refine g_iinc C dX10_add_42 (k := 0) (v := 0) rfl (by decide) (by decide) (lo2 := [(2, .int 0), (0, .ref x), (1, .int a0)]) rfl ?_
              refine g_goto C (tgt := 3) dX10_add_45 (by decide) ?_
              refine g_iload_n C 0 dX10_add_3 rfl rfl ?_
              refine g_if_lt C (tgt := 48) dX10_add_4 (by decide) (fun h_50 => ?_) (fun h_50 => ?_)
              · skip
                exact absurd (h_50) (by decide)
              · skip
                refine g_aload_n C 1 dX10_add_7 rfl rfl ?_
                refine g_getI C K hLx hkx f_10_29 (v := x_45) (kp_s hI_46) dX10_add_8 ?_
                refine g_aload_n C 1 dX10_add_11 rfl rfl ?_
                refine g_getR C K hLx hkx f_10_9 hb_1 dX10_add_12 ?_
                refine g_alenB C K hb_1L hb_1k (v := 940) (by rw [hb_1n]; rfl) dX10_add_15 ?_
                refine g_icmp_ge C (tgt := 48) dX10_add_16 (by decide) (fun h_51 => ?_) (fun h_51 => ?_)
                · skip
                  have r_52 := le_r (h_51) rc_940 rx_45
                  exact rg_no r_52 (by decide)
                · skip
                  refine g_aload_n C 1 dX10_add_19 rfl rfl ?_
                  refine g_getR C K hLx hkx f_10_9 hb_1 dX10_add_20 ?_
                  refine g_aload_n C 1 dX10_add_23 rfl rfl ?_
                  refine g_getI C K hLx hkx f_10_29 (v := x_45) (kp_s hI_46) dX10_add_24 ?_
                  refine g_iload_n C 2 dX10_add_27 rfl rfl ?_
                  refine g_iload_n C 0 dX10_add_28 rfl rfl ?_
                  obtain ⟨x_53, hx_53, rx_53⟩ := ex_any (z0 := a0 >>> (0 &&& 31))
                  refine g_ishr C (v := x_53) dX10_add_29 hx_53 ?_
                  obtain ⟨x_54, hx_54, rx_54⟩ := ex_b2 (x := x_53)
                  refine g_i2b C (v := x_54) dX10_add_30 hx_54 ?_
                  refine h_bast C K hb_1L hb_1k (x_45.toNatClampNeg) (rfl) (ix_0 rx_45 (by decide)) (ix_lt rx_45 (by decide) hb_1n (by decide)) dX10_add_31 (fun I_55 hI_55 => ?_)
                  have hU_56 := iv_put W9 hU_47 hI_55 (ro_a hb_1k (by decide) hb_1o hkx rfl) (lo := (-128)) (hi := 127) (rfl) (nar_b _) rfl
                  have hF_57 := fq_puta hF_48 hI_55 (ro_a hb_1k (by decide) hb_1o hkx rfl) (by decide) (by decide)
                  have hs_58 : TPq I_55 J x b_1 b_2 b_3 b_4 b_5 = (TP_.w_by_ (TP_.w_len s_6 (x_45)) (up1 (up1 (up1 (up1 (s_6.by_) (xp0.toNatClampNeg) ((vp_nar .byte x_12))) (x_17.toNatClampNeg) ((vp_nar .byte x_26))) (x_31.toNatClampNeg) ((vp_nar .byte x_40))) (x_45.toNatClampNeg) ((vp_nar .byte x_54)))) := by rw [hI_55]; exact ((tq_by_ wtqx).trans (congrArg (fun z : TP_ => TP_.w_by_ z (up1 (z.by_) (x_45.toNatClampNeg) ((vp_nar .byte x_54)))) hs_49)).trans rfl
                  refine g_aload_n C 1 dX10_add_32 rfl rfl ?_
                  refine g_dup C dX10_add_33 rfl ?_
                  refine g_getI C K hLx hkx f_10_29 (v := x_45) (kp_k (κ := κ) hI_55 (by rw [hkx, hb_1k]; decide) (kp_s hI_46)) dX10_add_34 ?_
                  refine g_iconst C (v := 1) dX10_add_37 (by decide) ?_
                  obtain ⟨x_59, hx_59, rx_59, tx_59⟩ := ex_add 4 940 rx_45 rc_1 (by decide) (by decide) (by decide) (by decide)
                  refine g_iadd C (v := x_59) dX10_add_38 hx_59 ?_
                  refine h_putI C K hLx hkx f_10_29 p_10_5 dX10_add_39 (fun I_60 hI_60 => ?_)
                  have hU_61 := iv_put W9 hU_56 hI_60 (ro_o hkx (by decide)) (lo := 0) (hi := 940) (rfl) (rg_w rx_59 (by decide) (by decide)) rfl
                  have hF_62 := fq_puto hF_57 hI_60 hkx (by decide) (by decide)
                  have hs_63 : TPq I_60 J x b_1 b_2 b_3 b_4 b_5 = (TP_.w_len (TP_.w_by_ s_6 (up1 (up1 (up1 (up1 (s_6.by_) (xp0.toNatClampNeg) ((vp_nar .byte x_12))) (x_17.toNatClampNeg) ((vp_nar .byte x_26))) (x_31.toNatClampNeg) ((vp_nar .byte x_40))) (x_45.toNatClampNeg) ((vp_nar .byte x_54)))) (x_59)) := by rw [hI_60]; exact ((tq_len wtqx).trans (congrArg (fun z : TP_ => TP_.w_len z (x_59)) hs_58)).trans rfl
                  refine g_iinc C dX10_add_42 (k := 0) (v := (-8)) rfl (by decide) (by decide) (lo2 := [(2, .int (-8)), (0, .ref x), (1, .int a0)]) rfl ?_
                  refine g_goto C (tgt := 3) dX10_add_45 (by decide) ?_
                  refine g_iload_n C 0 dX10_add_3 rfl rfl ?_
                  refine g_if_lt C (tgt := 48) dX10_add_4 (by decide) (fun h_64 => ?_) (fun h_64 => ?_)
                  · skip
                    exact g_vret B K rfl ⟨hU_61, hF_62, hG, (by first | (simp only [fAdd, fPutB, etqx, hs_63, hs_6, h_7, (nlt h_7), f_8, h_9, (nle h_9), hx_11, hx_12, hx_17, h_22, (nlt h_22), h_23, (nle h_23), hx_25, hx_26, hx_31, h_36, (nlt h_36), h_37, (nle h_37), hx_39, hx_40, hx_45, h_50, (nlt h_50), h_51, (nle h_51), hx_53, hx_54, hx_59, h_64, if_true, if_false, tqM_by_, tqM_wd, tqM_tk, tqM_pl, tqM_vl, tqM_len, tqM_n, tqM_at_, tqM_token, tqM_place, tqM_value, tqM_fault, tqM_fat, TP_.w_by_, TP_.w_wd, TP_.w_tk, TP_.w_pl, TP_.w_vl, TP_.w_len, TP_.w_n, TP_.w_at_, TP_.w_token, TP_.w_place, TP_.w_value, TP_.w_fault, TP_.w_fat]; done) | exact absurd (nle h_9) h_7 | exact absurd (nle h_9) h_22 | exact absurd (nle h_9) h_36 | exact absurd (nle h_9) h_50 | exact absurd (nle h_23) h_7 | exact absurd (nle h_23) h_22 | exact absurd (nle h_23) h_36 | exact absurd (nle h_23) h_50 | exact absurd (nle h_37) h_7 | exact absurd (nle h_37) h_22 | exact absurd (nle h_37) h_36 | exact absurd (nle h_37) h_50 | exact absurd (nle h_51) h_7 | exact absurd (nle h_51) h_22 | exact absurd (nle h_51) h_36 | exact absurd (nle h_51) h_50), (ad_4 (kp_s hI_60) hxp0 (by have := (ti_k tx_59 rc_1); have := (ti_k tx_45 rc_1); have := (ti_k tx_31 rc_1); have := (ti_k tx_17 rc_1); omega))⟩ dX10_add_48
                  · skip
                    exact absurd (nlt h_64) (by decide)
set_option maxRecDepth 100000 in
set_option maxHeartbeats 8000000 in
theorem c_X11_feed_e {l : Launch} {D : va_G} {cy : Nat → ClassId} {L : List Nat} {κ ln : Nat → Nat} {R : Nat → Nat → Option Nat} {I : Nat → Nat → Int32} {J : Nat → Nat → Int64} {ow : Nat → Nat × Nat} (W9 : ∀ a ∈ L, Shp L κ ln R ow a) {x : Nat} (hLx : x ∈ L) (hkx : κ x = 11) (a0 : Int32) (a1 : Int32) (a2 : Int32) (a3 : Int32) (a4 : Int32) (hU : Iv L κ R ow I) : CtI l yX11_feed cX11_feed 6 (some .int) { frames := 1, cells := 0, slots := 0, locals := 22 } D cy L κ ln R I J [.ref x, .int a0, .int a1, .int a2, .int a3, .int a4] (fun r I2 J2 => Iv L κ R ow I2 ∧ Fq L κ ow [1005, 70000] I I2 ∧ Fq L κ ow [] J J2 ∧ Rg (-1) 940 r ∧ ((r, TPf R I2 J2 (rr_ R x 0)) = fFeed a0 a1 a2 a3 a4 (TPf R I J (rr_ R x 0))) ∧ (∀ t, R x 0 = some t → Tf_ (I t 5) (I2 t 5) r)) := by
  obtain ⟨b_1, hb_1, hb_1L, hb_1k⟩ := shp_o (W9 x hLx) hkx 0 10 rfl (by decide)
  obtain ⟨x_2, hx_2, rx_2⟩ := ex_get (I := I) (a := b_1) (j := 5) (lo := 0) (hi := 940) hU.1 hb_1L (ro_o hb_1k (by decide)) rfl
  refine CtI.of (by decide +kernel) (Nat.le_of_ble_eq_true rfl) ?_
  intro p e s m below meth c B K
  have C := B.1
  have hF : Fq L κ ow [1005, 70000] I I := fq_rf
  have hG : Fq L κ ow [] J J := fq_rf
  obtain ⟨b_3, hb_3, hb_3L, hb_3k, hb_3n, hb_3o⟩ := shp_a (W9 b_1 hb_1L) hb_1k 0 13 940 rfl (by decide)
  obtain ⟨b_4, hb_4, hb_4L, hb_4k, hb_4n, hb_4o⟩ := shp_a (W9 b_1 hb_1L) hb_1k 1 15 28 rfl (by decide)
  obtain ⟨b_5, hb_5, hb_5L, hb_5k, hb_5n, hb_5o⟩ := shp_a (W9 b_1 hb_1L) hb_1k 2 14 901 rfl (by decide)
  obtain ⟨b_6, hb_6, hb_6L, hb_6k, hb_6n, hb_6o⟩ := shp_a (W9 b_1 hb_1L) hb_1k 3 14 901 rfl (by decide)
  obtain ⟨b_7, hb_7, hb_7L, hb_7k, hb_7n, hb_7o⟩ := shp_a (W9 b_1 hb_1L) hb_1k 4 15 901 rfl (by decide)
  have etqx_0 : ∀ I J, TPf R I J (rr_ R x 0) = TPq I J b_1 b_3 b_4 b_5 b_6 b_7 := fun I J => by simp only [TPf, rr_, Option.getD_some, hb_3, hb_4, hb_5, hb_6, hb_7, hb_1]
  have dtqx_0 : ∀ I J, TPf R I J b_1 = TPq I J b_1 b_3 b_4 b_5 b_6 b_7 := fun I J => by simp only [TPf, rr_, Option.getD_some, hb_3, hb_4, hb_5, hb_6, hb_7, hb_1]
  have wtqx_0 : tqw_ L κ ow b_1 b_3 b_4 b_5 b_6 b_7 := ⟨⟨hb_1L, hb_3L, hb_4L, hb_5L, hb_6L, hb_7L⟩, ⟨(ro_o hb_1k (by decide)), (ro_a hb_3k (by decide) hb_3o hb_1k rfl), (ro_a hb_4k (by decide) hb_4o hb_1k rfl), (ro_a hb_5k (by decide) hb_5o hb_1k rfl), (ro_a hb_6k (by decide) hb_6o hb_1k rfl), (ro_a hb_7k (by decide) hb_7o hb_1k rfl)⟩⟩
  obtain ⟨s_8, hs_8⟩ : ∃ z, TPq I J b_1 b_3 b_4 b_5 b_6 b_7 = z := ⟨_, rfl⟩
  refine g_lo (is := [0, 1, 2, 3, 4, 5]) (lo2 := [(0, .ref x), (1, .int a0), (2, .int a1), (3, .int a2), (4, .int a3), (5, .int a4)]) rfl ?_
  refine g_aload_n C 0 dX11_feed_0 rfl rfl ?_
  refine g_getR C K hLx hkx f_11_10 hb_1 dX11_feed_1 ?_
  have f_9 : s_8.len = x_2 := (congrArg TP_.len hs_8).symm.trans hx_2
  refine g_getI C K hb_1L hb_1k f_11_102 (v := x_2) hx_2 dX11_feed_4 ?_
  refine g_sipush C (v := 920) dX11_feed_7 (by decide) ?_
  refine g_icmp_le C (tgt := 15) dX11_feed_10 (by decide) (fun h_10 => ?_) (fun h_10 => ?_)
  · skip
    have r_11 := le_l (h_10) rx_2 rc_920
    refine g_aload_n C 0 dX11_feed_15 rfl rfl ?_
    refine g_getR C K hLx hkx f_11_10 hb_1 dX11_feed_16 ?_
    refine g_iload_n C 1 dX11_feed_19 rfl rfl ?_
    refine g_callVV C K (c_X10_add_e W9 hb_1L hb_1k a0  hU  (eq_rg hx_2 (rg_w r_11 (by decide) (by decide)))) hb_1L hb_1k (by decide) rfl v_11_105 rfl ⟨rfl, rfl⟩ ⟨Nat.le_of_ble_eq_true rfl, Nat.le_of_ble_eq_true rfl⟩ (Nat.le_of_ble_eq_true rfl) ⟨Nat.le_of_ble_eq_true rfl, Nat.le_of_ble_eq_true rfl⟩ dX11_feed_20 rfl (st := []) (fun I_13 J_14 h_15 => ?_)
    obtain ⟨hUI_13, hFI_13, hGJ_14, fx_12, ex_12⟩ := h_15
    have hF_16 := fq_tr hF hFI_13 (by decide)
    have hG_17 := fq_tr hG hGJ_14 (by decide)
    obtain ⟨s_19, hs_19⟩ : ∃ z, TPq I_13 J_14 b_1 b_3 b_4 b_5 b_6 b_7 = z := ⟨_, rfl⟩
    have c_18 : fAdd (a0) (s_8) = s_19 := by have q := fx_12; simp only [etqx_0, dtqx_0, hs_8, hs_19] at q; exact q.symm
    obtain ⟨x_20, hx_20, rx_20, tx_20⟩ := ad_x 4 924 ex_12 hx_2 r_11 (by decide) (by decide)
    refine g_aload_n C 0 dX11_feed_23 rfl rfl ?_
    refine g_getR C K hLx hkx f_11_10 hb_1 dX11_feed_24 ?_
    refine g_iload_n C 2 dX11_feed_27 rfl rfl ?_
    have f_21 : s_19.len = x_20 := (congrArg TP_.len hs_19).symm.trans hx_20
    refine g_callVV C K (c_X10_add_e W9 hb_1L hb_1k a1  hUI_13  (eq_rg hx_20 (rg_w rx_20 (by decide) (by decide)))) hb_1L hb_1k (by decide) rfl v_11_105 rfl ⟨rfl, rfl⟩ ⟨Nat.le_of_ble_eq_true rfl, Nat.le_of_ble_eq_true rfl⟩ (Nat.le_of_ble_eq_true rfl) ⟨Nat.le_of_ble_eq_true rfl, Nat.le_of_ble_eq_true rfl⟩ dX11_feed_28 rfl (st := []) (fun I_23 J_24 h_25 => ?_)
    obtain ⟨hUI_23, hFI_23, hGJ_24, fx_22, ex_22⟩ := h_25
    have hF_26 := fq_tr hF_16 hFI_23 (by decide)
    have hG_27 := fq_tr hG_17 hGJ_24 (by decide)
    obtain ⟨s_29, hs_29⟩ : ∃ z, TPq I_23 J_24 b_1 b_3 b_4 b_5 b_6 b_7 = z := ⟨_, rfl⟩
    have c_28 : fAdd (a1) (s_19) = s_29 := by have q := fx_22; simp only [etqx_0, dtqx_0, hs_19, hs_29] at q; exact q.symm
    obtain ⟨x_30, hx_30, rx_30, tx_30⟩ := ad_x 8 928 ex_22 hx_20 rx_20 (by decide) (by decide)
    refine g_aload_n C 0 dX11_feed_31 rfl rfl ?_
    refine g_getR C K hLx hkx f_11_10 hb_1 dX11_feed_32 ?_
    refine g_iload_n C 3 dX11_feed_35 rfl rfl ?_
    have f_31 : s_29.len = x_30 := (congrArg TP_.len hs_29).symm.trans hx_30
    refine g_callVV C K (c_X10_add_e W9 hb_1L hb_1k a2  hUI_23  (eq_rg hx_30 (rg_w rx_30 (by decide) (by decide)))) hb_1L hb_1k (by decide) rfl v_11_105 rfl ⟨rfl, rfl⟩ ⟨Nat.le_of_ble_eq_true rfl, Nat.le_of_ble_eq_true rfl⟩ (Nat.le_of_ble_eq_true rfl) ⟨Nat.le_of_ble_eq_true rfl, Nat.le_of_ble_eq_true rfl⟩ dX11_feed_36 rfl (st := []) (fun I_33 J_34 h_35 => ?_)
    obtain ⟨hUI_33, hFI_33, hGJ_34, fx_32, ex_32⟩ := h_35
    have hF_36 := fq_tr hF_26 hFI_33 (by decide)
    have hG_37 := fq_tr hG_27 hGJ_34 (by decide)
    obtain ⟨s_39, hs_39⟩ : ∃ z, TPq I_33 J_34 b_1 b_3 b_4 b_5 b_6 b_7 = z := ⟨_, rfl⟩
    have c_38 : fAdd (a2) (s_29) = s_39 := by have q := fx_32; simp only [etqx_0, dtqx_0, hs_29, hs_39] at q; exact q.symm
    obtain ⟨x_40, hx_40, rx_40, tx_40⟩ := ad_x 12 932 ex_32 hx_30 rx_30 (by decide) (by decide)
    refine g_aload_n C 0 dX11_feed_39 rfl rfl ?_
    refine g_getR C K hLx hkx f_11_10 hb_1 dX11_feed_40 ?_
    refine g_iload C 4 dX11_feed_43 rfl ?_
    have f_41 : s_39.len = x_40 := (congrArg TP_.len hs_39).symm.trans hx_40
    refine g_callVV C K (c_X10_add_e W9 hb_1L hb_1k a3  hUI_33  (eq_rg hx_40 (rg_w rx_40 (by decide) (by decide)))) hb_1L hb_1k (by decide) rfl v_11_105 rfl ⟨rfl, rfl⟩ ⟨Nat.le_of_ble_eq_true rfl, Nat.le_of_ble_eq_true rfl⟩ (Nat.le_of_ble_eq_true rfl) ⟨Nat.le_of_ble_eq_true rfl, Nat.le_of_ble_eq_true rfl⟩ dX11_feed_45 rfl (st := []) (fun I_43 J_44 h_45 => ?_)
    obtain ⟨hUI_43, hFI_43, hGJ_44, fx_42, ex_42⟩ := h_45
    have hF_46 := fq_tr hF_36 hFI_43 (by decide)
    have hG_47 := fq_tr hG_37 hGJ_44 (by decide)
    obtain ⟨s_49, hs_49⟩ : ∃ z, TPq I_43 J_44 b_1 b_3 b_4 b_5 b_6 b_7 = z := ⟨_, rfl⟩
    have c_48 : fAdd (a3) (s_39) = s_49 := by have q := fx_42; simp only [etqx_0, dtqx_0, hs_39, hs_49] at q; exact q.symm
    obtain ⟨x_50, hx_50, rx_50, tx_50⟩ := ad_x 16 936 ex_42 hx_40 rx_40 (by decide) (by decide)
    refine g_aload_n C 0 dX11_feed_48 rfl rfl ?_
    refine g_getR C K hLx hkx f_11_10 hb_1 dX11_feed_49 ?_
    refine g_iload C 5 dX11_feed_52 rfl ?_
    have f_51 : s_49.len = x_50 := (congrArg TP_.len hs_49).symm.trans hx_50
    refine g_callVV C K (c_X10_add_e W9 hb_1L hb_1k a4  hUI_43  (eq_rg hx_50 (rg_w rx_50 (by decide) (by decide)))) hb_1L hb_1k (by decide) rfl v_11_105 rfl ⟨rfl, rfl⟩ ⟨Nat.le_of_ble_eq_true rfl, Nat.le_of_ble_eq_true rfl⟩ (Nat.le_of_ble_eq_true rfl) ⟨Nat.le_of_ble_eq_true rfl, Nat.le_of_ble_eq_true rfl⟩ dX11_feed_54 rfl (st := []) (fun I_53 J_54 h_55 => ?_)
    obtain ⟨hUI_53, hFI_53, hGJ_54, fx_52, ex_52⟩ := h_55
    have hF_56 := fq_tr hF_46 hFI_53 (by decide)
    have hG_57 := fq_tr hG_47 hGJ_54 (by decide)
    obtain ⟨s_59, hs_59⟩ : ∃ z, TPq I_53 J_54 b_1 b_3 b_4 b_5 b_6 b_7 = z := ⟨_, rfl⟩
    have c_58 : fAdd (a4) (s_49) = s_59 := by have q := fx_52; simp only [etqx_0, dtqx_0, hs_49, hs_59] at q; exact q.symm
    obtain ⟨x_60, hx_60, rx_60, tx_60⟩ := ad_x 20 940 ex_52 hx_50 rx_50 (by decide) (by decide)
    refine g_aload_n C 0 dX11_feed_57 rfl rfl ?_
    refine g_getR C K hLx hkx f_11_10 hb_1 dX11_feed_58 ?_
    have f_61 : s_59.len = x_60 := (congrArg TP_.len hs_59).symm.trans hx_60
    refine g_getI C K hb_1L hb_1k f_11_102 (v := x_60) hx_60 dX11_feed_61 ?_
    exact g_zret (ty := .int) (r := x_60) B K rfl (rfl) ⟨hUI_53, hF_56, hG_57, rg_w rx_60 (by decide) (by decide), (by simp only [fFeed, etqx_0, dtqx_0, hs_59, hs_8, hx_2, f_9, h_10, c_18, hx_20, f_21, c_28, hx_30, f_31, c_38, hx_40, f_41, c_48, hx_50, f_51, c_58, hx_60, f_61, if_true, if_false, tqM_by_, tqM_wd, tqM_tk, tqM_pl, tqM_vl, tqM_len, tqM_n, tqM_at_, tqM_token, tqM_place, tqM_value, tqM_fault, tqM_fat, TP_.w_by_, TP_.w_wd, TP_.w_tk, TP_.w_pl, TP_.w_vl, TP_.w_len, TP_.w_n, TP_.w_at_, TP_.w_token, TP_.w_place, TP_.w_value, TP_.w_fault, TP_.w_fat]), (fun t ht => by rw [hb_1] at ht; cases ht; exact Or.inl ⟨by rw [hx_2]; have := (r_11).2; omega, hx_60, by rw [hx_2]; have := tx_60; have := tx_50; have := tx_40; have := tx_30; have := tx_20; omega⟩)⟩ dX11_feed_64
  · skip
    have r_62 := lt_r (lo := 921) (nle h_10) rc_920 rx_2 (by decide)
    refine g_iconst C (v := (-1)) dX11_feed_13 (by decide) ?_
    exact g_zret (ty := .int) (r := (-1)) B K rfl (rfl) ⟨hU, hF, hG, rg_w rc_m1 (by decide) (by decide), (by simp only [fFeed, etqx_0, dtqx_0, hs_8, hx_2, f_9, h_10, (nle h_10), if_true, if_false, tqM_by_, tqM_wd, tqM_tk, tqM_pl, tqM_vl, tqM_len, tqM_n, tqM_at_, tqM_token, tqM_place, tqM_value, tqM_fault, tqM_fat, TP_.w_by_, TP_.w_wd, TP_.w_tk, TP_.w_pl, TP_.w_vl, TP_.w_len, TP_.w_n, TP_.w_at_, TP_.w_token, TP_.w_place, TP_.w_value, TP_.w_fault, TP_.w_fat]), (fun t ht => by rw [hb_1] at ht; cases ht; exact Or.inr ⟨by rw [hx_2]; have := (r_62).1; omega, rfl, rfl⟩)⟩ dX11_feed_14
set_option maxRecDepth 100000 in
set_option maxHeartbeats 8000000 in
theorem c_X11_end_e {l : Launch} {D : va_G} {cy : Nat → ClassId} {L : List Nat} {κ ln : Nat → Nat} {R : Nat → Nat → Option Nat} {I : Nat → Nat → Int32} {J : Nat → Nat → Int64} {ow : Nat → Nat × Nat} (W9 : ∀ a ∈ L, Shp L κ ln R ow a) {x : Nat} (hLx : x ∈ L) (hkx : κ x = 11) (a0 : Int32) (hU : Iv L κ R ow I) : CtI l yX11_end cX11_end 2 (some .boolean) { frames := 0, cells := 0, slots := 0, locals := 0 } D cy L κ ln R I J [.ref x, .int a0] (fun r I2 J2 => Iv L κ R ow I2 ∧ Fq L κ ow [1005] I I2 ∧ Fq L κ ow [] J J2 ∧ Rg 0 1 r ∧ (∀ t, R x 0 = some t → Te_ (I t 5) (I2 t 5) a0 r)) := by
  obtain ⟨b_1, hb_1, hb_1L, hb_1k⟩ := shp_o (W9 x hLx) hkx 0 10 rfl (by decide)
  obtain ⟨x_2, hx_2, rx_2⟩ := ex_get (I := I) (a := b_1) (j := 5) (lo := 0) (hi := 940) hU.1 hb_1L (ro_o hb_1k (by decide)) rfl
  refine CtI.of (by decide +kernel) (Nat.le_of_ble_eq_true rfl) ?_
  intro p e s m below meth c B K
  have C := B.1
  have hF : Fq L κ ow [1005] I I := fq_rf
  have hG : Fq L κ ow [] J J := fq_rf
  refine g_lo (is := [0, 1]) (lo2 := [(0, .ref x), (1, .int a0)]) rfl ?_
  refine g_iload_n C 1 dX11_end_0 rfl rfl ?_
  refine g_if_lt C (tgt := 15) dX11_end_1 (by decide) (fun h_3 => ?_) (fun h_3 => ?_)
  · skip
    have r_4 := lt_l (hi := (-1)) (h_3) (rg_all a0) rc_0 (by decide)
    refine g_iconst C (v := 0) dX11_end_15 (by decide) ?_
    exact g_zret (ty := .boolean) (r := 0) B K rfl (rfl) ⟨hU, hF, hG, rg_w rc_0 (by decide) (by decide), (fun t ht => by rw [hb_1] at ht; cases ht; exact Or.inr ⟨Or.inl (by have := (r_4).2; omega), rfl, rfl⟩)⟩ dX11_end_16
  · skip
    have r_5 := le_r (nlt h_3) rc_0 (rg_all a0)
    refine g_iload_n C 1 dX11_end_4 rfl rfl ?_
    refine g_aload_n C 0 dX11_end_5 rfl rfl ?_
    refine g_getR C K hLx hkx f_11_10 hb_1 dX11_end_6 ?_
    refine g_getI C K hb_1L hb_1k f_11_102 (v := x_2) hx_2 dX11_end_9 ?_
    refine g_icmp_le C (tgt := 17) dX11_end_12 (by decide) (fun h_6 => ?_) (fun h_6 => ?_)
    · skip
      have r_7 := le_l (h_6) r_5 rx_2
      refine g_aload_n C 0 dX11_end_17 rfl rfl ?_
      refine g_getR C K hLx hkx f_11_10 hb_1 dX11_end_18 ?_
      refine g_iload_n C 1 dX11_end_21 rfl rfl ?_
      refine h_putI C K hb_1L hb_1k f_11_102 p_10_5 dX11_end_22 (fun I_8 hI_8 => ?_)
      have hU_9 := iv_put W9 hU hI_8 (ro_o hb_1k (by decide)) (lo := 0) (hi := 940) (rfl) (r_7) rfl
      have hF_10 := fq_puto hF hI_8 hb_1k (by decide) (by decide)
      refine g_iconst C (v := 1) dX11_end_25 (by decide) ?_
      exact g_zret (ty := .boolean) (r := 1) B K rfl (rfl) ⟨hU_9, hF_10, hG, rg_w rc_1 (by decide) (by decide), (fun t ht => by rw [hb_1] at ht; cases ht; exact Or.inl ⟨by have := (r_7).1; omega, by rw [hx_2]; exact Int32.le_iff_toInt_le.mp (h_6), rfl, (kp_s hI_8)⟩)⟩ dX11_end_26
    · skip
      have r_11 := lt_r (lo := 1) (nle h_6) rx_2 r_5 (by decide)
      refine g_iconst C (v := 0) dX11_end_15 (by decide) ?_
      exact g_zret (ty := .boolean) (r := 0) B K rfl (rfl) ⟨hU, hF, hG, rg_w rc_0 (by decide) (by decide), (fun t ht => by rw [hb_1] at ht; cases ht; exact Or.inr ⟨Or.inr (by rw [hx_2]; exact Int32.lt_iff_toInt_lt.mp (nle h_6)), rfl, rfl⟩)⟩ dX11_end_16
set_option maxRecDepth 100000 in
set_option maxHeartbeats 8000000 in
theorem c_X11_table_e {l : Launch} {D : va_G} {cy : Nat → ClassId} {L : List Nat} {κ ln : Nat → Nat} {R : Nat → Nat → Option Nat} {I : Nat → Nat → Int32} {J : Nat → Nat → Int64} {ow : Nat → Nat × Nat} (W9 : ∀ a ∈ L, Shp L κ ln R ow a) {x : Nat} (hLx : x ∈ L) (hkx : κ x = 11) (hU : Iv L κ R ow I) : CtI l yX11_table cX11_table 2 (some .int) { frames := 5, cells := 0, slots := 0, locals := 112 } D cy L κ ln R I J [.ref x] (fun r I2 J2 => Iv L κ R ow I2 ∧ Fq L κ ow [107, 108, 109, 110, 111, 112, 501, 704, 705, 805, 806, 807, 808, 902, 903, 1005, 1006, 1007, 1008, 1009, 1011, 1012, 16100, 16200, 16300, 16400, 16500, 16600, 58100, 58200, 58400, 70200, 70300] I I2 ∧ Fq L κ ow [1010, 58000, 58300, 70400] J J2 ∧ Rg (-2147483648) 2147483647 r ∧ (r = fTable (TPf R I J (rr_ R x 0)) (TBf R I J (rr_ R (rr_ R x 5) 0)) (CPf R I J (rr_ R (rr_ R x 5) 1)) (XPf R I J (rr_ R x 5))) ∧ (Kt_ L κ R I I2 [rr_ R x 1, rr_ R (rr_ R x 5) 0]) ∧ ((∀ b, fTableB (TPf R I J (rr_ R x 0)) (TBf R I J (rr_ R (rr_ R x 5) 0)) (CPf R I J (rr_ R (rr_ R x 5) 1)) (XPf R I J (rr_ R x 5)) = some b → ∀ h, R x 1 = some h → Ct_ R I2 h b) ∧ (fTableB (TPf R I J (rr_ R x 0)) (TBf R I J (rr_ R (rr_ R x 5) 0)) (CPf R I J (rr_ R (rr_ R x 5) 1)) (XPf R I J (rr_ R x 5)) = none → Kt_ L κ R I I2 [rr_ R (rr_ R x 5) 0])) ∧ (Kn_ L κ R J J2 [rr_ R x 1, rr_ R (rr_ R x 5) 0]) ∧ ((∀ b, fTableB (TPf R I J (rr_ R x 0)) (TBf R I J (rr_ R (rr_ R x 5) 0)) (CPf R I J (rr_ R (rr_ R x 5) 1)) (XPf R I J (rr_ R x 5)) = some b → ∀ h, R x 1 = some h → Cm_ R J2 h b) ∧ (fTableB (TPf R I J (rr_ R x 0)) (TBf R I J (rr_ R (rr_ R x 5) 0)) (CPf R I J (rr_ R (rr_ R x 5) 1)) (XPf R I J (rr_ R x 5)) = none → Kn_ L κ R J J2 [rr_ R (rr_ R x 5) 0])) ∧ (I2 (rr_ R x 0) 11 = fTableF (TPf R I J (rr_ R x 0)) (TBf R I J (rr_ R (rr_ R x 5) 0)) (CPf R I J (rr_ R (rr_ R x 5) 1)) (XPf R I J (rr_ R x 5))) ∧ (∀ t, R x 0 = some t → (I2 t 5) = 0)) := by
  refine CtI.of (by decide +kernel) (Nat.le_of_ble_eq_true rfl) ?_
  intro p e s m below meth c B K
  have C := B.1
  have hF : Fq L κ ow [107, 108, 109, 110, 111, 112, 501, 704, 705, 805, 806, 807, 808, 902, 903, 1005, 1006, 1007, 1008, 1009, 1011, 1012, 16100, 16200, 16300, 16400, 16500, 16600, 58100, 58200, 58400, 70200, 70300] I I := fq_rf
  have hG : Fq L κ ow [1010, 58000, 58300, 70400] J J := fq_rf
  obtain ⟨b_1, hb_1, hb_1L, hb_1k⟩ := shp_o (W9 x hLx) hkx 4 5 rfl (by decide)
  obtain ⟨b_2, hb_2, hb_2L, hb_2k⟩ := shp_o (W9 x hLx) hkx 2 1 rfl (by decide)
  obtain ⟨b_3, hb_3, hb_3L, hb_3k⟩ := shp_o (W9 x hLx) hkx 5 9 rfl (by decide)
  obtain ⟨b_4, hb_4, hb_4L, hb_4k⟩ := shp_o (W9 x hLx) hkx 7 7 rfl (by decide)
  obtain ⟨b_5, hb_5, hb_5L, hb_5k⟩ := shp_o (W9 x hLx) hkx 1 8 rfl (by decide)
  obtain ⟨b_6, hb_6, hb_6L, hb_6k⟩ := shp_o (W9 x hLx) hkx 0 10 rfl (by decide)
  obtain ⟨b_7, hb_7, hb_7L, hb_7k⟩ := shp_o (W9 b_3 hb_3L) hb_3k 0 8 rfl (by decide)
  obtain ⟨b_8, hb_8, hb_8L, hb_8k⟩ := shp_o (W9 b_3 hb_3L) hb_3k 1 1 rfl (by decide)
  obtain ⟨b_9, hb_9, hb_9L, hb_9k, hb_9n, hb_9o⟩ := shp_a (W9 b_6 hb_6L) hb_6k 0 13 940 rfl (by decide)
  obtain ⟨b_10, hb_10, hb_10L, hb_10k, hb_10n, hb_10o⟩ := shp_a (W9 b_6 hb_6L) hb_6k 1 15 28 rfl (by decide)
  obtain ⟨b_11, hb_11, hb_11L, hb_11k, hb_11n, hb_11o⟩ := shp_a (W9 b_6 hb_6L) hb_6k 2 14 901 rfl (by decide)
  obtain ⟨b_12, hb_12, hb_12L, hb_12k, hb_12n, hb_12o⟩ := shp_a (W9 b_6 hb_6L) hb_6k 3 14 901 rfl (by decide)
  obtain ⟨b_13, hb_13, hb_13L, hb_13k, hb_13n, hb_13o⟩ := shp_a (W9 b_6 hb_6L) hb_6k 4 15 901 rfl (by decide)
  have etqx_0 : ∀ I J, TPf R I J (rr_ R x 0) = TPq I J b_6 b_9 b_10 b_11 b_12 b_13 := fun I J => by simp only [TPf, rr_, Option.getD_some, hb_9, hb_10, hb_11, hb_12, hb_13, hb_6]
  have dtqx_0 : ∀ I J, TPf R I J b_6 = TPq I J b_6 b_9 b_10 b_11 b_12 b_13 := fun I J => by simp only [TPf, rr_, Option.getD_some, hb_9, hb_10, hb_11, hb_12, hb_13, hb_6]
  have wtqx_0 : tqw_ L κ ow b_6 b_9 b_10 b_11 b_12 b_13 := ⟨⟨hb_6L, hb_9L, hb_10L, hb_11L, hb_12L, hb_13L⟩, ⟨(ro_o hb_6k (by decide)), (ro_a hb_9k (by decide) hb_9o hb_6k rfl), (ro_a hb_10k (by decide) hb_10o hb_6k rfl), (ro_a hb_11k (by decide) hb_11o hb_6k rfl), (ro_a hb_12k (by decide) hb_12o hb_6k rfl), (ro_a hb_13k (by decide) hb_13o hb_6k rfl)⟩⟩
  obtain ⟨s_14, hs_14⟩ : ∃ z, TPq I J b_6 b_9 b_10 b_11 b_12 b_13 = z := ⟨_, rfl⟩
  obtain ⟨b_15, hb_15, hb_15L, hb_15k, hb_15n, hb_15o⟩ := shp_a (W9 b_7 hb_7L) hb_7k 0 15 7 rfl (by decide)
  obtain ⟨b_16, hb_16, hb_16L, hb_16k, hb_16n, hb_16o⟩ := shp_a (W9 b_7 hb_7L) hb_7k 2 14 7 rfl (by decide)
  obtain ⟨b_17, hb_17, hb_17L, hb_17k, hb_17n, hb_17o⟩ := shp_a (W9 b_7 hb_7L) hb_7k 3 15 6 rfl (by decide)
  have ebqx_5_0 : ∀ I J, TBf R I J (rr_ R (rr_ R x 5) 0) = TBq I J b_7 b_15 b_16 b_17 := fun I J => by simp only [TBf, rr_, Option.getD_some, hb_15, hb_16, hb_17, hb_3, hb_7]
  have dbqx_5_0 : ∀ I J, TBf R I J b_7 = TBq I J b_7 b_15 b_16 b_17 := fun I J => by simp only [TBf, rr_, Option.getD_some, hb_15, hb_16, hb_17, hb_3, hb_7]
  have wbqx_5_0 : bqw_ L κ ow b_7 b_15 b_16 b_17 := ⟨⟨hb_7L, hb_15L, hb_16L, hb_17L⟩, ⟨(ro_o hb_7k (by decide)), (ro_a hb_15k (by decide) hb_15o hb_7k rfl), (ro_a hb_16k (by decide) hb_16o hb_7k rfl), (ro_a hb_17k (by decide) hb_17o hb_7k rfl)⟩⟩
  obtain ⟨s_18, hs_18⟩ : ∃ z, TBq I J b_7 b_15 b_16 b_17 = z := ⟨_, rfl⟩
  obtain ⟨b_19, hb_19, hb_19L, hb_19k, hb_19n, hb_19o⟩ := shp_a (W9 b_8 hb_8L) hb_8k 2 14 42 rfl (by decide)
  have ecqx_5_1 : ∀ I J, CPf R I J (rr_ R (rr_ R x 5) 1) = CPq I J b_8 b_19 := fun I J => by simp only [CPf, rr_, Option.getD_some, hb_19, hb_3, hb_8]
  have dcqx_5_1 : ∀ I J, CPf R I J b_8 = CPq I J b_8 b_19 := fun I J => by simp only [CPf, rr_, Option.getD_some, hb_19, hb_3, hb_8]
  have wcqx_5_1 : cqw_ L κ ow b_8 b_19 := ⟨⟨hb_8L, hb_19L⟩, ⟨(ro_o hb_8k (by decide)), (ro_a hb_19k (by decide) hb_19o hb_8k rfl)⟩⟩
  obtain ⟨s_20, hs_20⟩ : ∃ z, CPq I J b_8 b_19 = z := ⟨_, rfl⟩
  have exqx_5 : ∀ I J, XPf R I J (rr_ R x 5) = XPq I J b_3 := fun I J => by simp only [XPf, rr_, Option.getD_some, hb_3]
  have dxqx_5 : ∀ I J, XPf R I J b_3 = XPq I J b_3 := fun I J => by simp only [XPf, rr_, Option.getD_some, hb_3]
  have wxqx_5 : xqw_ L κ ow b_3 := ⟨hb_3L, (ro_o hb_3k (by decide))⟩
  obtain ⟨s_21, hs_21⟩ : ∃ z, XPq I J b_3 = z := ⟨_, rfl⟩
  refine g_lo (is := [0]) (lo2 := [(0, .ref x)]) rfl ?_
  refine g_aload_n C 0 dX11_table_0 rfl rfl ?_
  refine g_getR C K hLx hkx f_11_45 hb_3 dX11_table_1 ?_
  refine g_aload_n C 0 dX11_table_4 rfl rfl ?_
  refine g_getR C K hLx hkx f_11_10 hb_6 dX11_table_5 ?_
  refine g_callVI C K (c_X9_readFrom W9 hb_3L hb_3k hb_6L hb_6k  hU) hb_3L hb_3k (by decide) rfl v_11_109 rfl ⟨rfl, rfl⟩ ⟨Nat.le_of_ble_eq_true rfl, Nat.le_of_ble_eq_true rfl⟩ (Nat.le_of_ble_eq_true rfl) ⟨Nat.le_of_ble_eq_true rfl, Nat.le_of_ble_eq_true rfl⟩ dX11_table_8 rfl (st := []) (fun x_22 I_23 J_24 h_25 => ?_)
  obtain ⟨hUI_23, hFI_23, hGJ_24, rx_22, fx_22, ex_22⟩ := h_25
  have hF_26 := fq_tr hF hFI_23 (by decide)
  have hG_27 := fq_tr hG hGJ_24 (by decide)
  have d_28 : ∀ I J, TBf R I J (rr_ R b_3 0) = TBq I J b_7 b_15 b_16 b_17 := fun I J => by simp only [TBf, rr_, Option.getD_some, hb_7, hb_15, hb_16, hb_17]
  have d_29 : ∀ I J, CPf R I J (rr_ R b_3 1) = CPq I J b_8 b_19 := fun I J => by simp only [CPf, rr_, Option.getD_some, hb_8, hb_19]
  obtain ⟨s_31, hs_31⟩ : ∃ z, TPq I_23 J_24 b_6 b_9 b_10 b_11 b_12 b_13 = z := ⟨_, rfl⟩
  obtain ⟨s_32, hs_32⟩ : ∃ z, TBq I_23 J_24 b_7 b_15 b_16 b_17 = z := ⟨_, rfl⟩
  obtain ⟨s_33, hs_33⟩ : ∃ z, CPq I_23 J_24 b_8 b_19 = z := ⟨_, rfl⟩
  obtain ⟨s_34, hs_34⟩ : ∃ z, XPq I_23 J_24 b_3 = z := ⟨_, rfl⟩
  have c_30 : fReadFrom (s_14) (s_18) (s_20) (s_21) = (x_22, s_31, s_32, s_33, s_34) := by have q := fx_22; simp only [etqx_0, dtqx_0, ebqx_5_0, dbqx_5_0, ecqx_5_1, dcqx_5_1, exqx_5, dxqx_5, d_28, d_29, hs_14, hs_18, hs_20, hs_21, hs_31, hs_32, hs_33, hs_34] at q; exact q.symm
  have kt_35 : Kt_ L κ R I I_23 [rr_ R x 1, rr_ R (rr_ R x 5) 0] := (kt_t kt_rf ex_22.1 (by simp only [rr_s hb_5, rr_s hb_3, rr_s hb_7]; simp only [List.mem_cons, List.not_mem_nil, or_false, forall_eq, true_or, or_true]))
  have kt_36 : Kt_ L κ R I I_23 [rr_ R (rr_ R x 5) 0] := (kt_t kt_rf ex_22.1 (by simp only [rr_s hb_3, rr_s hb_7]; simp only [List.mem_cons, List.not_mem_nil, or_false, forall_eq, true_or, or_true]))
  have kn_37 : Kn_ L κ R J J_24 [rr_ R x 1, rr_ R (rr_ R x 5) 0] := (kn_t kn_rf ex_22.2 (by simp only [rr_s hb_5, rr_s hb_3, rr_s hb_7]; simp only [List.mem_cons, List.not_mem_nil, or_false, forall_eq, true_or, or_true]))
  have kn_38 : Kn_ L κ R J J_24 [rr_ R (rr_ R x 5) 0] := (kn_t kn_rf ex_22.2 (by simp only [rr_s hb_3, rr_s hb_7]; simp only [List.mem_cons, List.not_mem_nil, or_false, forall_eq, true_or, or_true]))
  refine g_istore_n C dX11_table_11 rfl (by decide) (lo2 := [(1, .int x_22), (0, .ref x)]) rfl ?_
  refine g_aload_n C 1 dX11_table_12 rfl rfl ?_
  refine g_getR C K hLx hkx f_11_10 hb_6 dX11_table_13 ?_
  refine g_iconst C (v := 0) dX11_table_16 (by decide) ?_
  refine h_putI C K hb_6L hb_6k f_11_102 p_10_5 dX11_table_17 (fun I_39 hI_39 => ?_)
  have hU_40 := iv_put W9 hUI_23 hI_39 (ro_o hb_6k (by decide)) (lo := 0) (hi := 940) (rfl) (rg_w rc_0 (by decide) (by decide)) rfl
  have hF_41 := fq_puto hF_26 hI_39 hb_6k (by decide) (by decide)
  have hs_42 : TPq I_39 J_24 b_6 b_9 b_10 b_11 b_12 b_13 = (TP_.w_len s_31 (0)) := by rw [hI_39]; exact ((tq_len wtqx_0).trans (congrArg (fun z : TP_ => TP_.w_len z (0)) hs_31)).trans rfl
  have hs_43 : TBq I_39 J_24 b_7 b_15 b_16 b_17 = s_32 := by rw [hI_39]; exact (bq_oI wbqx_5_0 (ro_o hb_6k (by decide)) (by decide)).trans hs_32
  have hs_44 : CPq I_39 J_24 b_8 b_19 = s_33 := by rw [hI_39]; exact (cq_oI wcqx_5_1 (ro_o hb_6k (by decide)) (by decide)).trans hs_33
  have hs_45 : XPq I_39 J_24 b_3 = s_34 := by rw [hI_39]; exact (xq_oI wxqx_5 (ro_o hb_6k (by decide)) (by decide)).trans hs_34
  refine g_aload_n C 1 dX11_table_20 rfl rfl ?_
  refine g_getR C K hLx hkx f_11_10 hb_6 dX11_table_21 ?_
  obtain ⟨x_46, hx_46, rx_46⟩ := ex_get (I := I_39) (a := b_6) (j := 11) (lo := (-2147483648)) (hi := 2147483647) hU_40.1 hb_6L (ro_o hb_6k (by decide)) rfl
  have f_47 : s_31.fault = x_46 := (congrArg TP_.fault hs_42).symm.trans hx_46
  refine g_getI C K hb_6L hb_6k f_11_113 (v := x_46) hx_46 dX11_table_24 ?_
  refine g_if_eq C (tgt := 40) dX11_table_27 (by decide) (fun h_48 => ?_) (fun h_48 => ?_)
  · skip
    have r_49 := (⟨(eq_rg (h_48) rc_0).1, (eq_rg (h_48) rc_0).2⟩ : Rg 0 0 x_46)
    refine g_aload_n C 1 dX11_table_40 rfl rfl ?_
    refine g_getR C K hLx hkx f_11_19 hb_5 dX11_table_41 ?_
    refine g_aload_n C 1 dX11_table_44 rfl rfl ?_
    refine g_getR C K hLx hkx f_11_45 hb_3 dX11_table_45 ?_
    refine g_getR C K hb_3L hb_3k f_11_119 hb_7 dX11_table_48 ?_
    refine g_callVV C K (c_X8_become W9 hb_5L hb_5k hb_7L hb_7k  hU_40) hb_5L hb_5k (by decide) rfl v_11_120 rfl ⟨rfl, rfl⟩ ⟨Nat.le_of_ble_eq_true rfl, Nat.le_of_ble_eq_true rfl⟩ (Nat.le_of_ble_eq_true rfl) ⟨Nat.le_of_ble_eq_true rfl, Nat.le_of_ble_eq_true rfl⟩ dX11_table_51 rfl (st := []) (fun I_51 J_52 h_53 => ?_)
    obtain ⟨hUI_51, hFI_51, hGJ_52, ex_50⟩ := h_53
    have hF_54 := fq_tr hF_41 hFI_51 (by decide)
    have hG_55 := fq_tr hG_27 hGJ_52 (by decide)
    have hs_56 : TPq I_51 J_52 b_6 b_9 b_10 b_11 b_12 b_13 = (TP_.w_len s_31 (0)) := (tq_fq wtqx_0 hFI_51 hGJ_52 (by decide) (by decide)).trans hs_42
    have hs_57 : CPq I_51 J_52 b_8 b_19 = s_33 := (cq_fq wcqx_5_1 hFI_51 hGJ_52 (by decide) (by decide)).trans hs_44
    have hs_58 : XPq I_51 J_52 b_3 = s_34 := (xq_fq wxqx_5 hFI_51 hGJ_52 (by decide) (by decide)).trans hs_45
    have kt_59 : Kt_ L κ R I I_39 [rr_ R x 1, rr_ R (rr_ R x 5) 0] := (kt_u (r := 0) W9 kt_35 hI_39 (Or.inl (by rw [hb_6k]; decide)))
    have kt_60 : Kt_ L κ R I I_39 [rr_ R (rr_ R x 5) 0] := (kt_u (r := 0) W9 kt_36 hI_39 (Or.inl (by rw [hb_6k]; decide)))
    have kt_61 : Kt_ L κ R I I_51 [rr_ R x 1, rr_ R (rr_ R x 5) 0] := (kt_t kt_59 ex_50.1 (by simp only [rr_s hb_5, rr_s hb_3, rr_s hb_7]; simp only [List.mem_cons, List.not_mem_nil, or_false, forall_eq, true_or, or_true]))
    have kn_62 : Kn_ L κ R J J_52 [rr_ R x 1, rr_ R (rr_ R x 5) 0] := (kn_t kn_37 ex_50.2.2.1 (by simp only [rr_s hb_5, rr_s hb_3, rr_s hb_7]; simp only [List.mem_cons, List.not_mem_nil, or_false, forall_eq, true_or, or_true]))
    refine g_aload_n C 1 dX11_table_54 rfl rfl ?_
    refine g_getR C K hLx hkx f_11_28 hb_2 dX11_table_55 ?_
    refine g_aload_n C 1 dX11_table_58 rfl rfl ?_
    refine g_getR C K hLx hkx f_11_45 hb_3 dX11_table_59 ?_
    refine g_getR C K hb_3L hb_3k f_11_123 hb_8 dX11_table_62 ?_
    refine g_callVV C K (c_X1_become W9 hb_2L hb_2k hb_8L hb_8k  hUI_51) hb_2L hb_2k (by decide) rfl v_11_126 rfl ⟨rfl, rfl⟩ ⟨Nat.le_of_ble_eq_true rfl, Nat.le_of_ble_eq_true rfl⟩ (Nat.le_of_ble_eq_true rfl) ⟨Nat.le_of_ble_eq_true rfl, Nat.le_of_ble_eq_true rfl⟩ dX11_table_65 rfl (st := []) (fun I_64 J_65 h_66 => ?_)
    obtain ⟨hUI_64, hFI_64, hGJ_65⟩ := h_66
    have hF_67 := fq_tr hF_54 hFI_64 (by decide)
    have hG_68 := fq_tr hG_55 hGJ_65 (by decide)
    have hs_69 : TPq I_64 J_65 b_6 b_9 b_10 b_11 b_12 b_13 = (TP_.w_len s_31 (0)) := (tq_fq wtqx_0 hFI_64 hGJ_65 (by decide) (by decide)).trans hs_56
    have hs_70 : XPq I_64 J_65 b_3 = s_34 := (xq_fq wxqx_5 hFI_64 hGJ_65 (by decide) (by decide)).trans hs_58
    have kt_71 : Kt_ L κ R I I_64 [rr_ R x 1, rr_ R (rr_ R x 5) 0] := (kt_fq W9 kt_61 hFI_64 (by decide))
    have kn_72 : Kn_ L κ R J J_65 [rr_ R x 1, rr_ R (rr_ R x 5) 0] := (kn_fq W9 kn_62 hGJ_65 (by decide))
    refine g_aload_n C 1 dX11_table_68 rfl rfl ?_
    refine g_getR C K hLx hkx f_11_59 hb_4 dX11_table_69 ?_
    refine g_callVV C K (c_X7_forget W9 hb_4L hb_4k   hUI_64) hb_4L hb_4k (by decide) rfl v_11_129 rfl ⟨rfl, rfl⟩ ⟨Nat.le_of_ble_eq_true rfl, Nat.le_of_ble_eq_true rfl⟩ (Nat.le_of_ble_eq_true rfl) ⟨Nat.le_of_ble_eq_true rfl, Nat.le_of_ble_eq_true rfl⟩ dX11_table_72 rfl (st := []) (fun I_74 J_75 h_76 => ?_)
    obtain ⟨hUI_74, hFI_74, hGJ_75, fx_73⟩ := h_76
    have hF_77 := fq_tr hF_67 hFI_74 (by decide)
    have hG_78 := fq_tr hG_68 hGJ_75 (by decide)
    have hs_79 : TPq I_74 J_75 b_6 b_9 b_10 b_11 b_12 b_13 = (TP_.w_len s_31 (0)) := (tq_fq wtqx_0 hFI_74 hGJ_75 (by decide) (by decide)).trans hs_69
    have hs_80 : XPq I_74 J_75 b_3 = s_34 := (xq_fq wxqx_5 hFI_74 hGJ_75 (by decide) (by decide)).trans hs_70
    have kt_81 : Kt_ L κ R I I_74 [rr_ R x 1, rr_ R (rr_ R x 5) 0] := (kt_fq W9 kt_71 hFI_74 (by decide))
    have kn_82 : Kn_ L κ R J J_75 [rr_ R x 1, rr_ R (rr_ R x 5) 0] := (kn_fq W9 kn_72 hGJ_75 (by decide))
    refine g_aload_n C 1 dX11_table_75 rfl rfl ?_
    refine g_getR C K hLx hkx f_11_38 hb_1 dX11_table_76 ?_
    refine g_callVV C K (c_X5_forget W9 hb_1L hb_1k   hUI_74) hb_1L hb_1k (by decide) rfl v_11_132 rfl ⟨rfl, rfl⟩ ⟨Nat.le_of_ble_eq_true rfl, Nat.le_of_ble_eq_true rfl⟩ (Nat.le_of_ble_eq_true rfl) ⟨Nat.le_of_ble_eq_true rfl, Nat.le_of_ble_eq_true rfl⟩ dX11_table_79 rfl (st := []) (fun I_84 J_85 h_86 => ?_)
    obtain ⟨hUI_84, hFI_84, hGJ_85⟩ := h_86
    have hF_87 := fq_tr hF_77 hFI_84 (by decide)
    have hG_88 := fq_tr hG_78 hGJ_85 (by decide)
    have hs_89 : TPq I_84 J_85 b_6 b_9 b_10 b_11 b_12 b_13 = (TP_.w_len s_31 (0)) := (tq_fq wtqx_0 hFI_84 hGJ_85 (by decide) (by decide)).trans hs_79
    have hs_90 : XPq I_84 J_85 b_3 = s_34 := (xq_fq wxqx_5 hFI_84 hGJ_85 (by decide) (by decide)).trans hs_80
    have kt_91 : Kt_ L κ R I I_84 [rr_ R x 1, rr_ R (rr_ R x 5) 0] := (kt_fq W9 kt_81 hFI_84 (by decide))
    have kn_92 : Kn_ L κ R J J_85 [rr_ R x 1, rr_ R (rr_ R x 5) 0] := (kn_fq W9 kn_82 hGJ_85 (by decide))
    refine g_iload_n C 0 dX11_table_82 rfl rfl ?_
    have tn_93 : fTableB (TPf R I J (rr_ R x 0)) (TBf R I J (rr_ R (rr_ R x 5) 0)) (CPf R I J (rr_ R (rr_ R x 5) 1)) (XPf R I J (rr_ R x 5)) = some s_32 := by simp only [fTableB, etqx_0, dtqx_0, hs_89, hs_14, ebqx_5_0, dbqx_5_0, hs_18, ecqx_5_1, dcqx_5_1, hs_20, exqx_5, dxqx_5, hs_90, hs_21, c_30, hx_46, f_47, (eq_true h_48), if_true, if_false, bqM_pnm, bqM_par, bqM_dnm, bqM_persons, bqM_dishes, bqM_law, bqM_dogs, TB_.w_pnm, TB_.w_par, TB_.w_dnm, TB_.w_persons, TB_.w_dishes, TB_.w_law, TB_.w_dogs, cqM_pcs, CP_.w_pcs, tqM_by_, tqM_wd, tqM_tk, tqM_pl, tqM_vl, tqM_len, tqM_n, tqM_at_, tqM_token, tqM_place, tqM_value, tqM_fault, tqM_fat, TP_.w_by_, TP_.w_wd, TP_.w_tk, TP_.w_pl, TP_.w_vl, TP_.w_len, TP_.w_n, TP_.w_at_, TP_.w_token, TP_.w_place, TP_.w_value, TP_.w_fault, TP_.w_fat, xqM_lt, xqM_dt, XP_.w_lt, XP_.w_dt]
    have tn_94 : fTableB (TPf R I J (rr_ R x 0)) (TBf R I J (rr_ R (rr_ R x 5) 0)) (CPf R I J (rr_ R (rr_ R x 5) 1)) (XPf R I J (rr_ R x 5)) = some s_32 := by simp only [fTableB, etqx_0, dtqx_0, hs_89, hs_14, ebqx_5_0, dbqx_5_0, hs_18, ecqx_5_1, dcqx_5_1, hs_20, exqx_5, dxqx_5, hs_90, hs_21, c_30, hx_46, f_47, (eq_true h_48), if_true, if_false, bqM_pnm, bqM_par, bqM_dnm, bqM_persons, bqM_dishes, bqM_law, bqM_dogs, TB_.w_pnm, TB_.w_par, TB_.w_dnm, TB_.w_persons, TB_.w_dishes, TB_.w_law, TB_.w_dogs, cqM_pcs, CP_.w_pcs, tqM_by_, tqM_wd, tqM_tk, tqM_pl, tqM_vl, tqM_len, tqM_n, tqM_at_, tqM_token, tqM_place, tqM_value, tqM_fault, tqM_fat, TP_.w_by_, TP_.w_wd, TP_.w_tk, TP_.w_pl, TP_.w_vl, TP_.w_len, TP_.w_n, TP_.w_at_, TP_.w_token, TP_.w_place, TP_.w_value, TP_.w_fault, TP_.w_fat, xqM_lt, xqM_dt, XP_.w_lt, XP_.w_dt]
    have q_95 := (fq_at hFI_84 hb_6L hb_6k (by decide) (by decide) (fq_at hFI_74 hb_6L hb_6k (by decide) (by decide) (fq_at hFI_64 hb_6L hb_6k (by decide) (by decide) (fq_at hFI_51 hb_6L hb_6k (by decide) (by decide) hx_46))))
    have q_96 := (fq_at hFI_84 hb_6L hb_6k (by decide) (by decide) (fq_at hFI_74 hb_6L hb_6k (by decide) (by decide) (fq_at hFI_64 hb_6L hb_6k (by decide) (by decide) (fq_at hFI_51 hb_6L hb_6k (by decide) (by decide) (kp_s hI_39)))))
    exact g_zret (ty := .int) (r := x_22) B K rfl (rfl) ⟨hUI_84, hF_87, hG_88, rg_all _, (by simp only [fTable, etqx_0, dtqx_0, hs_89, hs_14, ebqx_5_0, dbqx_5_0, hs_18, ecqx_5_1, dcqx_5_1, hs_20, exqx_5, dxqx_5, hs_90, hs_21, c_30, hx_46, f_47, (eq_true h_48), if_true, if_false, bqM_pnm, bqM_par, bqM_dnm, bqM_persons, bqM_dishes, bqM_law, bqM_dogs, TB_.w_pnm, TB_.w_par, TB_.w_dnm, TB_.w_persons, TB_.w_dishes, TB_.w_law, TB_.w_dogs, cqM_pcs, CP_.w_pcs, tqM_by_, tqM_wd, tqM_tk, tqM_pl, tqM_vl, tqM_len, tqM_n, tqM_at_, tqM_token, tqM_place, tqM_value, tqM_fault, tqM_fat, TP_.w_by_, TP_.w_wd, TP_.w_tk, TP_.w_pl, TP_.w_vl, TP_.w_len, TP_.w_n, TP_.w_at_, TP_.w_token, TP_.w_place, TP_.w_value, TP_.w_fault, TP_.w_fat, xqM_lt, xqM_dt, XP_.w_lt, XP_.w_dt]), kt_91, ⟨fun b hb h hh => by rw [tn_93] at hb; cases hb; rw [hb_5] at hh; cases hh; exact ct_of (sc_fq W9 hb_5L hb_5k (sc_fq W9 hb_5L hb_5k (sc_fq W9 hb_5L hb_5k ex_50.2.1 hFI_64 (by decide)) hFI_74 (by decide)) hFI_84 (by decide)) ⟨congrArg TB_.persons hs_43, congrArg TB_.dishes hs_43, congrArg TB_.law hs_43, congrArg TB_.dogs hs_43, (fun q hq j hj => by rw [hb_16] at hq; cases hq; exact congrFun (congrArg TB_.par hs_43) j)⟩ ⟨_, hb_16⟩, fun hb => by rw [tn_93] at hb; cases hb⟩, kn_92, ⟨fun b hb h hh => by rw [tn_94] at hb; cases hb; rw [hb_5] at hh; cases hh; exact cm_of (sn_fq W9 hb_5L hb_5k (sn_fq W9 hb_5L hb_5k (sn_fq W9 hb_5L hb_5k ex_50.2.2.2 hGJ_65 (by decide)) hGJ_75 (by decide)) hGJ_85 (by decide)) hb_15 hb_17 (fun j => congrFun (congrArg TB_.pnm hs_43) j) (fun j => congrFun (congrArg TB_.dnm hs_43) j), fun hb => by rw [tn_94] at hb; cases hb⟩, (by rw [rr_s hb_6, q_95]; simp only [fTableF, etqx_0, dtqx_0, hs_89, hs_14, ebqx_5_0, dbqx_5_0, hs_18, ecqx_5_1, dcqx_5_1, hs_20, exqx_5, dxqx_5, hs_90, hs_21, c_30, hx_46, f_47, (eq_true h_48), if_true, if_false, bqM_pnm, bqM_par, bqM_dnm, bqM_persons, bqM_dishes, bqM_law, bqM_dogs, TB_.w_pnm, TB_.w_par, TB_.w_dnm, TB_.w_persons, TB_.w_dishes, TB_.w_law, TB_.w_dogs, cqM_pcs, CP_.w_pcs, tqM_by_, tqM_wd, tqM_tk, tqM_pl, tqM_vl, tqM_len, tqM_n, tqM_at_, tqM_token, tqM_place, tqM_value, tqM_fault, tqM_fat, TP_.w_by_, TP_.w_wd, TP_.w_tk, TP_.w_pl, TP_.w_vl, TP_.w_len, TP_.w_n, TP_.w_at_, TP_.w_token, TP_.w_place, TP_.w_value, TP_.w_fault, TP_.w_fat, xqM_lt, xqM_dt, XP_.w_lt, XP_.w_dt]), (fun t ht => by rw [hb_6] at ht; cases ht; exact q_96)⟩ dX11_table_83
  · skip
    have n_97 : ¬ x_46 = 0 := h_48
    refine g_iconst C (v := (-1)) dX11_table_30 (by decide) ?_
    refine g_aload_n C 1 dX11_table_31 rfl rfl ?_
    refine g_getR C K hLx hkx f_11_10 hb_6 dX11_table_32 ?_
    obtain ⟨x_98, hx_98, rx_98⟩ := ex_get (I := I_39) (a := b_6) (j := 12) (lo := (-2147483648)) (hi := 2147483647) hU_40.1 hb_6L (ro_o hb_6k (by decide)) rfl
    have f_99 : s_31.fat = x_98 := (congrArg TP_.fat hs_42).symm.trans hx_98
    refine g_getI C K hb_6L hb_6k f_11_116 (v := x_98) hx_98 dX11_table_35 ?_
    obtain ⟨x_100, hx_100, rx_100, tx_100⟩ := ex_sub (-2147483648) 2147483647 rc_m1 rx_98 (by decide) (by decide) (by decide) (by decide)
    refine g_isub C (v := x_100) dX11_table_38 hx_100 ?_
    have kt_101 : Kt_ L κ R I I_39 [rr_ R x 1, rr_ R (rr_ R x 5) 0] := (kt_u (r := 0) W9 kt_35 hI_39 (Or.inl (by rw [hb_6k]; decide)))
    have kt_102 : Kt_ L κ R I I_39 [rr_ R (rr_ R x 5) 0] := (kt_u (r := 0) W9 kt_36 hI_39 (Or.inl (by rw [hb_6k]; decide)))
    have tn_103 : fTableB (TPf R I J (rr_ R x 0)) (TBf R I J (rr_ R (rr_ R x 5) 0)) (CPf R I J (rr_ R (rr_ R x 5) 1)) (XPf R I J (rr_ R x 5)) = none := by simp only [fTableB, etqx_0, dtqx_0, hs_42, hs_14, ebqx_5_0, dbqx_5_0, hs_43, hs_18, ecqx_5_1, dcqx_5_1, hs_44, hs_20, exqx_5, dxqx_5, hs_45, hs_21, c_30, hx_46, f_47, h_48, hx_98, f_99, hx_100, if_true, if_false, bqM_pnm, bqM_par, bqM_dnm, bqM_persons, bqM_dishes, bqM_law, bqM_dogs, TB_.w_pnm, TB_.w_par, TB_.w_dnm, TB_.w_persons, TB_.w_dishes, TB_.w_law, TB_.w_dogs, cqM_pcs, CP_.w_pcs, tqM_by_, tqM_wd, tqM_tk, tqM_pl, tqM_vl, tqM_len, tqM_n, tqM_at_, tqM_token, tqM_place, tqM_value, tqM_fault, tqM_fat, TP_.w_by_, TP_.w_wd, TP_.w_tk, TP_.w_pl, TP_.w_vl, TP_.w_len, TP_.w_n, TP_.w_at_, TP_.w_token, TP_.w_place, TP_.w_value, TP_.w_fault, TP_.w_fat, xqM_lt, xqM_dt, XP_.w_lt, XP_.w_dt]
    have tn_104 : fTableB (TPf R I J (rr_ R x 0)) (TBf R I J (rr_ R (rr_ R x 5) 0)) (CPf R I J (rr_ R (rr_ R x 5) 1)) (XPf R I J (rr_ R x 5)) = none := by simp only [fTableB, etqx_0, dtqx_0, hs_42, hs_14, ebqx_5_0, dbqx_5_0, hs_43, hs_18, ecqx_5_1, dcqx_5_1, hs_44, hs_20, exqx_5, dxqx_5, hs_45, hs_21, c_30, hx_46, f_47, h_48, hx_98, f_99, hx_100, if_true, if_false, bqM_pnm, bqM_par, bqM_dnm, bqM_persons, bqM_dishes, bqM_law, bqM_dogs, TB_.w_pnm, TB_.w_par, TB_.w_dnm, TB_.w_persons, TB_.w_dishes, TB_.w_law, TB_.w_dogs, cqM_pcs, CP_.w_pcs, tqM_by_, tqM_wd, tqM_tk, tqM_pl, tqM_vl, tqM_len, tqM_n, tqM_at_, tqM_token, tqM_place, tqM_value, tqM_fault, tqM_fat, TP_.w_by_, TP_.w_wd, TP_.w_tk, TP_.w_pl, TP_.w_vl, TP_.w_len, TP_.w_n, TP_.w_at_, TP_.w_token, TP_.w_place, TP_.w_value, TP_.w_fault, TP_.w_fat, xqM_lt, xqM_dt, XP_.w_lt, XP_.w_dt]
    exact g_zret (ty := .int) (r := x_100) B K rfl (rfl) ⟨hU_40, hF_41, hG_27, rx_100, (by simp only [fTable, etqx_0, dtqx_0, hs_42, hs_14, ebqx_5_0, dbqx_5_0, hs_43, hs_18, ecqx_5_1, dcqx_5_1, hs_44, hs_20, exqx_5, dxqx_5, hs_45, hs_21, c_30, hx_46, f_47, h_48, hx_98, f_99, hx_100, if_true, if_false, bqM_pnm, bqM_par, bqM_dnm, bqM_persons, bqM_dishes, bqM_law, bqM_dogs, TB_.w_pnm, TB_.w_par, TB_.w_dnm, TB_.w_persons, TB_.w_dishes, TB_.w_law, TB_.w_dogs, cqM_pcs, CP_.w_pcs, tqM_by_, tqM_wd, tqM_tk, tqM_pl, tqM_vl, tqM_len, tqM_n, tqM_at_, tqM_token, tqM_place, tqM_value, tqM_fault, tqM_fat, TP_.w_by_, TP_.w_wd, TP_.w_tk, TP_.w_pl, TP_.w_vl, TP_.w_len, TP_.w_n, TP_.w_at_, TP_.w_token, TP_.w_place, TP_.w_value, TP_.w_fault, TP_.w_fat, xqM_lt, xqM_dt, XP_.w_lt, XP_.w_dt]), kt_101, ⟨fun b hb => (by rw [tn_103] at hb; cases hb), fun _ => kt_102⟩, kn_37, ⟨fun b hb => (by rw [tn_104] at hb; cases hb), fun _ => kn_38⟩, (by rw [rr_s hb_6, hx_46]; simp only [fTableF, etqx_0, dtqx_0, hs_42, hs_14, ebqx_5_0, dbqx_5_0, hs_43, hs_18, ecqx_5_1, dcqx_5_1, hs_44, hs_20, exqx_5, dxqx_5, hs_45, hs_21, c_30, hx_46, f_47, h_48, hx_98, f_99, hx_100, if_true, if_false, bqM_pnm, bqM_par, bqM_dnm, bqM_persons, bqM_dishes, bqM_law, bqM_dogs, TB_.w_pnm, TB_.w_par, TB_.w_dnm, TB_.w_persons, TB_.w_dishes, TB_.w_law, TB_.w_dogs, cqM_pcs, CP_.w_pcs, tqM_by_, tqM_wd, tqM_tk, tqM_pl, tqM_vl, tqM_len, tqM_n, tqM_at_, tqM_token, tqM_place, tqM_value, tqM_fault, tqM_fat, TP_.w_by_, TP_.w_wd, TP_.w_tk, TP_.w_pl, TP_.w_vl, TP_.w_len, TP_.w_n, TP_.w_at_, TP_.w_token, TP_.w_place, TP_.w_value, TP_.w_fault, TP_.w_fat, xqM_lt, xqM_dt, XP_.w_lt, XP_.w_dt]), (fun t ht => by rw [hb_6] at ht; cases ht; exact (kp_s hI_39))⟩ dX11_table_39
set_option maxRecDepth 100000 in
set_option maxHeartbeats 8000000 in
theorem c_X11_eaters_e {l : Launch} {D : va_G} {cy : Nat → ClassId} {L : List Nat} {κ ln : Nat → Nat} {R : Nat → Nat → Option Nat} {I : Nat → Nat → Int32} {J : Nat → Nat → Int64} {ow : Nat → Nat × Nat} (W9 : ∀ a ∈ L, Shp L κ ln R ow a) {x : Nat} (hLx : x ∈ L) (hkx : κ x = 11) (hU : Iv L κ R ow I) : CtI l yX11_eaters cX11_eaters 4 (some .int) { frames := 3, cells := 0, slots := 0, locals := 113 } D cy L κ ln R I J [.ref x] (fun r I2 J2 => Iv L κ R ow I2 ∧ Fq L κ ow [201, 202, 1005, 22000] I I2 ∧ Fq L κ ow [] J J2 ∧ Rg (-2147483648) 2147483647 r ∧ (∀ t, R x 0 = some t → (I2 t 5) = 0)) := by
  refine CtI.of (by decide +kernel) (Nat.le_of_ble_eq_true rfl) ?_
  intro p e s m below meth c B K
  have C := B.1
  have hF : Fq L κ ow [201, 202, 1005, 22000] I I := fq_rf
  have hG : Fq L κ ow [] J J := fq_rf
  obtain ⟨b_1, hb_1, hb_1L, hb_1k⟩ := shp_o (W9 x hLx) hkx 11 2 rfl (by decide)
  obtain ⟨b_2, hb_2, hb_2L, hb_2k⟩ := shp_o (W9 x hLx) hkx 2 1 rfl (by decide)
  obtain ⟨b_3, hb_3, hb_3L, hb_3k⟩ := shp_o (W9 x hLx) hkx 1 8 rfl (by decide)
  obtain ⟨b_4, hb_4, hb_4L, hb_4k⟩ := shp_o (W9 x hLx) hkx 0 10 rfl (by decide)
  refine g_lo (is := [0]) (lo2 := [(0, .ref x)]) rfl ?_
  refine g_aload_n C 0 dX11_eaters_0 rfl rfl ?_
  refine g_getR C K hLx hkx f_11_10 hb_4 dX11_eaters_1 ?_
  obtain ⟨x_5, hx_5, rx_5⟩ := ex_get (I := I) (a := b_4) (j := 5) (lo := 0) (hi := 940) hU.1 hb_4L (ro_o hb_4k (by decide)) rfl
  refine g_getI C K hb_4L hb_4k f_11_102 (v := x_5) hx_5 dX11_eaters_4 ?_
  refine g_iconst C (v := 2) dX11_eaters_7 (by decide) ?_
  refine g_icmp_ne C (tgt := 15) dX11_eaters_8 (by decide) (fun h_6 => ?_) (fun h_6 => ?_)
  · skip
    have n_7 : ¬ x_5 = 2 := h_6
    refine g_iconst C (v := 0) dX11_eaters_15 (by decide) ?_
    refine g_istore_n C dX11_eaters_16 rfl (by decide) (lo2 := [(1, .int 0), (0, .ref x)]) rfl ?_
    refine g_aload_n C 1 dX11_eaters_17 rfl rfl ?_
    refine g_getR C K hLx hkx f_11_10 hb_4 dX11_eaters_18 ?_
    refine g_iconst C (v := 0) dX11_eaters_21 (by decide) ?_
    refine g_callVI C K (c_X10_byteOf W9 hb_4L hb_4k 0 (rg_w rc_0 (by decide) (by decide)) hU) hb_4L hb_4k (by decide) rfl v_11_275 rfl ⟨rfl, rfl⟩ ⟨Nat.le_of_ble_eq_true rfl, Nat.le_of_ble_eq_true rfl⟩ (Nat.le_of_ble_eq_true rfl) ⟨Nat.le_of_ble_eq_true rfl, Nat.le_of_ble_eq_true rfl⟩ dX11_eaters_22 rfl (st := []) (fun x_8 I_9 J_10 h_11 => ?_)
    obtain ⟨rfl, rfl, rx_8⟩ := h_11
    refine g_istore_n C dX11_eaters_25 rfl (by decide) (lo2 := [(2, .int x_8), (1, .int 0), (0, .ref x)]) rfl ?_
    refine g_aload_n C 2 dX11_eaters_26 rfl rfl ?_
    refine g_getR C K hLx hkx f_11_10 hb_4 dX11_eaters_27 ?_
    refine g_iconst C (v := 1) dX11_eaters_30 (by decide) ?_
    refine g_callVI C K (c_X10_byteOf W9 hb_4L hb_4k 1 (rg_w rc_1 (by decide) (by decide)) hU) hb_4L hb_4k (by decide) rfl v_11_275 rfl ⟨rfl, rfl⟩ ⟨Nat.le_of_ble_eq_true rfl, Nat.le_of_ble_eq_true rfl⟩ (Nat.le_of_ble_eq_true rfl) ⟨Nat.le_of_ble_eq_true rfl, Nat.le_of_ble_eq_true rfl⟩ dX11_eaters_31 rfl (st := []) (fun x_12 I_13 J_14 h_15 => ?_)
    obtain ⟨rfl, rfl, rx_12⟩ := h_15
    refine g_istore_n C dX11_eaters_34 rfl (by decide) (lo2 := [(3, .int x_12), (2, .int x_8), (1, .int 0), (0, .ref x)]) rfl ?_
    refine g_aload_n C 3 dX11_eaters_35 rfl rfl ?_
    refine g_getR C K hLx hkx f_11_10 hb_4 dX11_eaters_36 ?_
    refine g_iconst C (v := 0) dX11_eaters_39 (by decide) ?_
    refine h_putI C K hb_4L hb_4k f_11_102 p_10_5 dX11_eaters_40 (fun I_16 hI_16 => ?_)
    have hU_17 := iv_put W9 hU hI_16 (ro_o hb_4k (by decide)) (lo := 0) (hi := 940) (rfl) (rg_w rc_0 (by decide) (by decide)) rfl
    have hF_18 := fq_puto hF hI_16 hb_4k (by decide) (by decide)
    refine g_iload_n C 2 dX11_eaters_43 rfl rfl ?_
    refine g_if_eq C (tgt := 74) dX11_eaters_44 (by decide) (fun h_19 => ?_) (fun h_19 => ?_)
    · skip
      refine g_iconst C (v := (-1)) dX11_eaters_74 (by decide) ?_
      exact g_zret (ty := .int) (r := (-1)) B K rfl (rfl) ⟨hU_17, hF_18, hG, rg_all _, (fun t ht => by rw [hb_4] at ht; cases ht; exact (kp_s hI_16))⟩ dX11_eaters_75
    · skip
      exact absurd (h_19) (by decide)
  · skip
    have r_20 := (⟨(eq_rg (h_6) rc_2).1, (eq_rg (h_6) rc_2).2⟩ : Rg 2 2 x_5)
    refine g_iconst C (v := 1) dX11_eaters_11 (by decide) ?_
    refine g_goto C (tgt := 16) dX11_eaters_12 (by decide) ?_
    refine g_istore_n C dX11_eaters_16 rfl (by decide) (lo2 := [(1, .int 1), (0, .ref x)]) rfl ?_
    refine g_aload_n C 1 dX11_eaters_17 rfl rfl ?_
    refine g_getR C K hLx hkx f_11_10 hb_4 dX11_eaters_18 ?_
    refine g_iconst C (v := 0) dX11_eaters_21 (by decide) ?_
    refine g_callVI C K (c_X10_byteOf W9 hb_4L hb_4k 0 (rg_w rc_0 (by decide) (by decide)) hU) hb_4L hb_4k (by decide) rfl v_11_275 rfl ⟨rfl, rfl⟩ ⟨Nat.le_of_ble_eq_true rfl, Nat.le_of_ble_eq_true rfl⟩ (Nat.le_of_ble_eq_true rfl) ⟨Nat.le_of_ble_eq_true rfl, Nat.le_of_ble_eq_true rfl⟩ dX11_eaters_22 rfl (st := []) (fun x_21 I_22 J_23 h_24 => ?_)
    obtain ⟨rfl, rfl, rx_21⟩ := h_24
    refine g_istore_n C dX11_eaters_25 rfl (by decide) (lo2 := [(2, .int x_21), (1, .int 1), (0, .ref x)]) rfl ?_
    refine g_aload_n C 2 dX11_eaters_26 rfl rfl ?_
    refine g_getR C K hLx hkx f_11_10 hb_4 dX11_eaters_27 ?_
    refine g_iconst C (v := 1) dX11_eaters_30 (by decide) ?_
    refine g_callVI C K (c_X10_byteOf W9 hb_4L hb_4k 1 (rg_w rc_1 (by decide) (by decide)) hU) hb_4L hb_4k (by decide) rfl v_11_275 rfl ⟨rfl, rfl⟩ ⟨Nat.le_of_ble_eq_true rfl, Nat.le_of_ble_eq_true rfl⟩ (Nat.le_of_ble_eq_true rfl) ⟨Nat.le_of_ble_eq_true rfl, Nat.le_of_ble_eq_true rfl⟩ dX11_eaters_31 rfl (st := []) (fun x_25 I_26 J_27 h_28 => ?_)
    obtain ⟨rfl, rfl, rx_25⟩ := h_28
    refine g_istore_n C dX11_eaters_34 rfl (by decide) (lo2 := [(3, .int x_25), (2, .int x_21), (1, .int 1), (0, .ref x)]) rfl ?_
    refine g_aload_n C 3 dX11_eaters_35 rfl rfl ?_
    refine g_getR C K hLx hkx f_11_10 hb_4 dX11_eaters_36 ?_
    refine g_iconst C (v := 0) dX11_eaters_39 (by decide) ?_
    refine h_putI C K hb_4L hb_4k f_11_102 p_10_5 dX11_eaters_40 (fun I_29 hI_29 => ?_)
    have hU_30 := iv_put W9 hU hI_29 (ro_o hb_4k (by decide)) (lo := 0) (hi := 940) (rfl) (rg_w rc_0 (by decide) (by decide)) rfl
    have hF_31 := fq_puto hF hI_29 hb_4k (by decide) (by decide)
    refine g_iload_n C 2 dX11_eaters_43 rfl rfl ?_
    refine g_if_eq C (tgt := 74) dX11_eaters_44 (by decide) (fun h_32 => ?_) (fun h_32 => ?_)
    · skip
      exact absurd (h_32) (by decide)
    · skip
      refine g_aload_n C 3 dX11_eaters_47 rfl rfl ?_
      refine g_getR C K hLx hkx f_11_19 hb_3 dX11_eaters_48 ?_
      refine g_iload_n C 1 dX11_eaters_51 rfl rfl ?_
      refine g_callVI C K (c_X8_hasDish W9 hb_3L hb_3k x_21  hU_30) hb_3L hb_3k (by decide) rfl v_11_175 rfl ⟨rfl, rfl⟩ ⟨Nat.le_of_ble_eq_true rfl, Nat.le_of_ble_eq_true rfl⟩ (Nat.le_of_ble_eq_true rfl) ⟨Nat.le_of_ble_eq_true rfl, Nat.le_of_ble_eq_true rfl⟩ dX11_eaters_52 rfl (st := []) (fun x_33 I_34 J_35 h_36 => ?_)
      obtain ⟨rfl, rfl, rx_33, ex_33⟩ := h_36
      refine g_if_eq C (tgt := 74) dX11_eaters_55 (by decide) (fun h_37 => ?_) (fun h_37 => ?_)
      · skip
        have r_38 := (⟨(rx_33).1, (eq_rg (h_37) rc_0).2⟩ : Rg 0 0 x_33)
        refine g_iconst C (v := (-1)) dX11_eaters_74 (by decide) ?_
        exact g_zret (ty := .int) (r := (-1)) B K rfl (rfl) ⟨hU_30, hF_31, hG, rg_all _, (fun t ht => by rw [hb_4] at ht; cases ht; exact (kp_s hI_29))⟩ dX11_eaters_75
      · skip
        have n_39 : ¬ x_33 = 0 := h_37
        have r_40 := ne_lo (lo := 1) n_39 rx_33 rc_0 rfl (by decide)
        have r_41 := rg_i rx_21 ((ex_33) n_39) (lo := 0) (hi := 5) (by decide) (by decide)
        refine g_aload_n C 3 dX11_eaters_58 rfl rfl ?_
        refine g_getR C K hLx hkx f_11_83 hb_1 dX11_eaters_59 ?_
        refine g_aload_n C 3 dX11_eaters_62 rfl rfl ?_
        refine g_getR C K hLx hkx f_11_28 hb_2 dX11_eaters_63 ?_
        refine g_iload_n C 1 dX11_eaters_66 rfl rfl ?_
        refine g_iload_n C 0 dX11_eaters_67 rfl rfl ?_
        refine g_callVI C K (c_X2_setsWith W9 hb_1L hb_1k hb_2L hb_2k x_21 x_25 (r_41) (rx_25) hU_30) hb_1L hb_1k (by decide) rfl v_11_278 rfl ⟨rfl, rfl⟩ ⟨Nat.le_of_ble_eq_true rfl, Nat.le_of_ble_eq_true rfl⟩ (Nat.le_of_ble_eq_true rfl) ⟨Nat.le_of_ble_eq_true rfl, Nat.le_of_ble_eq_true rfl⟩ dX11_eaters_68 rfl (st := []) (fun x_42 I_43 J_44 h_45 => ?_)
        obtain ⟨hUI_43, hFI_43, hGJ_44, rx_42⟩ := h_45
        have hF_46 := fq_tr hF_31 hFI_43 (by decide)
        have hG_47 := fq_tr hG hGJ_44 (by decide)
        refine g_goto C (tgt := 75) dX11_eaters_71 (by decide) ?_
        exact g_zret (ty := .int) (r := x_42) B K rfl (rfl) ⟨hUI_43, hF_46, hG_47, rx_42, (fun t ht => by rw [hb_4] at ht; cases ht; exact (fq_at hFI_43 hb_4L hb_4k (by decide) (by decide) (kp_s hI_29)))⟩ dX11_eaters_75
set_option maxRecDepth 100000 in
set_option maxHeartbeats 8000000 in
theorem c_X11_left_e {l : Launch} {D : va_G} {cy : Nat → ClassId} {L : List Nat} {κ ln : Nat → Nat} {R : Nat → Nat → Option Nat} {I : Nat → Nat → Int32} {J : Nat → Nat → Int64} {ow : Nat → Nat × Nat} (W9 : ∀ a ∈ L, Shp L κ ln R ow a) {x : Nat} (hLx : x ∈ L) (hkx : κ x = 11) (a0 : Int32) (hU : Iv L κ R ow I) : CtI l yX11_left cX11_left 5 (some .int) { frames := 4, cells := 0, slots := 0, locals := 107 } D cy L κ ln R I J [.ref x, .int a0] (fun r I2 J2 => Iv L κ R ow I2 ∧ Fq L κ ow [107, 108, 109, 110, 111, 112, 1005, 16100, 16200, 16300, 16400, 16500, 16600] I I2 ∧ Fq L κ ow [] J J2 ∧ Rg (-2147483648) 2147483647 r ∧ (∀ t, R x 0 = some t → (I2 t 5) = 0)) := by
  refine CtI.of (by decide +kernel) (Nat.le_of_ble_eq_true rfl) ?_
  intro p e s m below meth c B K
  have C := B.1
  have hF : Fq L κ ow [107, 108, 109, 110, 111, 112, 1005, 16100, 16200, 16300, 16400, 16500, 16600] I I := fq_rf
  have hG : Fq L κ ow [] J J := fq_rf
  obtain ⟨b_1, hb_1, hb_1L, hb_1k⟩ := shp_o (W9 x hLx) hkx 3 1 rfl (by decide)
  obtain ⟨b_2, hb_2, hb_2L, hb_2k⟩ := shp_o (W9 x hLx) hkx 2 1 rfl (by decide)
  obtain ⟨b_3, hb_3, hb_3L, hb_3k⟩ := shp_o (W9 x hLx) hkx 1 8 rfl (by decide)
  obtain ⟨b_4, hb_4, hb_4L, hb_4k⟩ := shp_o (W9 x hLx) hkx 0 10 rfl (by decide)
  obtain ⟨b_5, hb_5, hb_5L, hb_5k, hb_5n, hb_5o⟩ := shp_a (W9 b_1 hb_1L) hb_1k 3 14 7 rfl (by decide)
  refine g_lo (is := [0, 1]) (lo2 := [(0, .ref x), (1, .int a0)]) rfl ?_
  have j_108 : ∀ (I_6 : Nat → Nat → Int32) (J_7 : Nat → Nat → Int64) (hU_8 : Iv L κ R ow I_6) (hF_9 : Fq L κ ow [107, 108, 109, 110, 111, 112, 1005, 16100, 16200, 16300, 16400, 16500, 16600] I I_6) (hG_10 : Fq L κ ow [] J J_7) (v_11 : Int32) (v_12 : Int32) (rv_12 : Rg 0 1 v_12) (v_13 : Int32) (rv_13 : Rg 0 940 v_13) (v_14 : Int32) (rv_14 : Rg 0 940 v_14) (q_15 : I_6 b_4 5 = v_14) (im_16 : ¬ v_12 = 0 → Rg 0 6 v_11), WG p l e { frames := 4, cells := 0, slots := 0, locals := 107 } s m ([.ref x, .int a0] : List Value).toArray below meth c 5 0 0 (MQ below (Qi_ D cy L κ ln R (fun r I2 J2 => Iv L κ R ow I2 ∧ Fq L κ ow [107, 108, 109, 110, 111, 112, 1005, 16100, 16200, 16300, 16400, 16500, 16600] I I2 ∧ Fq L κ ow [] J J2 ∧ Rg (-2147483648) 2147483647 r ∧ (∀ t, R x 0 = some t → (I2 t 5) = 0))) ([.ref x, .int a0] : List Value).toArray s 0 0 (Al_ L)) D cy (Al_ L) s.heap L κ ln R I_6 J_7 108 [(0, .ref x), (1, .int v_11), (2, .int v_12), (3, .int v_13)] [] := by
    intro I_6 J_7 hU_8 hF_9 hG_10 v_11 v_12 rv_12 v_13 rv_13 v_14 rv_14 q_15 im_16
    refine g_aload_n C 0 dX11_left_108 rfl rfl ?_
    refine g_getR C K hLx hkx f_11_10 hb_4 dX11_left_109 ?_
    refine g_iconst C (v := 0) dX11_left_112 (by decide) ?_
    refine h_putI C K hb_4L hb_4k f_11_102 p_10_5 dX11_left_113 (fun I_17 hI_17 => ?_)
    have hU_18 := iv_put W9 hU_8 hI_17 (ro_o hb_4k (by decide)) (lo := 0) (hi := 940) (rfl) (rg_w rc_0 (by decide) (by decide)) rfl
    have hF_19 := fq_puto hF_9 hI_17 hb_4k (by decide) (by decide)
    refine g_iload_n C 2 dX11_left_116 rfl rfl ?_
    refine g_if_eq C (tgt := 132) dX11_left_117 (by decide) (fun h_20 => ?_) (fun h_20 => ?_)
    · skip
      have r_21 := (⟨(rv_12).1, (eq_rg (h_20) rc_0).2⟩ : Rg 0 0 v_12)
      refine g_iconst C (v := (-1)) dX11_left_132 (by decide) ?_
      exact g_zret (ty := .int) (r := (-1)) B K rfl (rfl) ⟨hU_18, hF_19, hG_10, rg_all _, (fun t ht => by rw [hb_4] at ht; cases ht; exact (kp_s hI_17))⟩ dX11_left_133
    · skip
      have n_22 : ¬ v_12 = 0 := h_20
      have r_23 := ne_lo (lo := 1) n_22 rv_12 rc_0 rfl (by decide)
      have r_24 := rg_i (rg_all v_11) (im_16 n_22) (lo := 0) (hi := 6) (by decide) (by decide)
      refine g_aload_n C 0 dX11_left_120 rfl rfl ?_
      refine g_getR C K hLx hkx f_11_32 hb_1 dX11_left_121 ?_
      refine g_getR C K hb_1L hb_1k f_11_166 hb_5 dX11_left_124 ?_
      refine g_iload_n C 1 dX11_left_127 rfl rfl ?_
      obtain ⟨x_25, hx_25, rx_25⟩ := ex_any (z0 := I_17 b_5 (v_11.toNatClampNeg))
      refine h_iald C K hb_5L hb_5k (v := x_25) (v_11.toNatClampNeg) (rfl) (ix_0 r_24 (by decide)) (ix_lt r_24 (by decide) hb_5n (by decide)) hx_25 dX11_left_128 ?_
      refine g_goto C (tgt := 133) dX11_left_129 (by decide) ?_
      exact g_zret (ty := .int) (r := x_25) B K rfl (rfl) ⟨hU_18, hF_19, hG_10, rx_25, (fun t ht => by rw [hb_4] at ht; cases ht; exact (kp_s hI_17))⟩ dX11_left_133
  have l_53 : ∀ (n_53 : Nat) (I_26 : Nat → Nat → Int32) (J_27 : Nat → Nat → Int64) (hU_28 : Iv L κ R ow I_26) (hF_29 : Fq L κ ow [107, 108, 109, 110, 111, 112, 1005, 16100, 16200, 16300, 16400, 16500, 16600] I I_26) (hG_30 : Fq L κ ow [] J J_27) (v_31 : Int32) (v_32 : Int32) (rv_32 : Rg 0 1 v_32) (v_33 : Int32) (rv_33 : Rg 0 940 v_33) (im_34 : ¬ v_32 = 0 → Rg 0 6 v_31) (hm_35 : 940 < (v_33 : Int32).toInt + (n_53 : Int)), WG p l e { frames := 4, cells := 0, slots := 0, locals := 107 } s m ([.ref x, .int a0] : List Value).toArray below meth c 5 0 0 (MQ below (Qi_ D cy L κ ln R (fun r I2 J2 => Iv L κ R ow I2 ∧ Fq L κ ow [107, 108, 109, 110, 111, 112, 1005, 16100, 16200, 16300, 16400, 16500, 16600] I I2 ∧ Fq L κ ow [] J J2 ∧ Rg (-2147483648) 2147483647 r ∧ (∀ t, R x 0 = some t → (I2 t 5) = 0))) ([.ref x, .int a0] : List Value).toArray s 0 0 (Al_ L)) D cy (Al_ L) s.heap L κ ln R I_26 J_27 53 [(0, .ref x), (1, .int v_31), (2, .int v_32), (3, .int v_33)] [] := by
    intro n_53
    induction n_53 with
    | zero =>
      intro I_26 J_27 hU_28 hF_29 hG_30 v_31 v_32 rv_32 v_33 rv_33 im_34 hm_35
      exact ms_0 rv_33 hm_35
    | succ n_53 ih_53 =>
      intro I_26 J_27 hU_28 hF_29 hG_30 v_31 v_32 rv_32 v_33 rv_33 im_34 hm_35
      have j_102 : ∀ (I_36 : Nat → Nat → Int32) (J_37 : Nat → Nat → Int64) (hU_38 : Iv L κ R ow I_36) (hF_39 : Fq L κ ow [107, 108, 109, 110, 111, 112, 1005, 16100, 16200, 16300, 16400, 16500, 16600] I I_36) (hG_40 : Fq L κ ow [] J J_37) (v_41 : Int32) (rv_41 : Rg 0 6 v_41) (v_42 : Int32) (rv_42 : Rg 0 1 v_42) (v_43 : Int32) (rv_43 : Rg 0 939 v_43) (v_44 : Int32) (rv_44 : Rg (-1) 255 v_44) (v_45 : Int32) (rv_45 : Rg 1 940 v_45) (q_46 : I_36 b_4 5 = v_45) (hm_47 : 940 < (v_43 : Int32).toInt + ((n_53 + 1 : Nat) : Int)), WG p l e { frames := 4, cells := 0, slots := 0, locals := 107 } s m ([.ref x, .int a0] : List Value).toArray below meth c 5 0 0 (MQ below (Qi_ D cy L κ ln R (fun r I2 J2 => Iv L κ R ow I2 ∧ Fq L κ ow [107, 108, 109, 110, 111, 112, 1005, 16100, 16200, 16300, 16400, 16500, 16600] I I2 ∧ Fq L κ ow [] J J2 ∧ Rg (-2147483648) 2147483647 r ∧ (∀ t, R x 0 = some t → (I2 t 5) = 0))) ([.ref x, .int a0] : List Value).toArray s 0 0 (Al_ L)) D cy (Al_ L) s.heap L κ ln R I_36 J_37 102 [(0, .ref x), (1, .int v_41), (2, .int v_42), (3, .int v_43), (4, .int v_44)] [] := by
        intro I_36 J_37 hU_38 hF_39 hG_40 v_41 rv_41 v_42 rv_42 v_43 rv_43 v_44 rv_44 v_45 rv_45 q_46 hm_47
        obtain ⟨x_48, hx_48, rx_48, tx_48⟩ := ex_add (y := 1) 1 940 rv_43 rc_1 (by decide) (by decide) (by decide) (by decide)
        refine g_iinc C dX11_left_102 (k := 3) (v := x_48) rfl hx_48 (by decide) (lo2 := [(3, .int x_48), (0, .ref x), (1, .int v_41), (2, .int v_42), (4, .int v_44)]) rfl ?_
        refine g_goto C (tgt := 53) dX11_left_105 (by decide) ?_
        refine g_lo (is := [1, 2, 3, 0]) (lo2 := [(0, .ref x), (1, .int v_41), (2, .int v_42), (3, .int x_48)]) rfl ?_
        exact ih_53 I_36 J_37 hU_38 hF_39 hG_40 v_41 v_42 (rv_42) x_48 (rg_w rx_48 (by decide) (by decide)) (fun _ => rv_41) (ms_1 hm_47 (ti_k tx_48 rc_1) (by decide))
      refine g_iload_n C 3 dX11_left_53 rfl rfl ?_
      refine g_aload_n C 0 dX11_left_54 rfl rfl ?_
      refine g_getR C K hLx hkx f_11_10 hb_4 dX11_left_55 ?_
      obtain ⟨x_49, hx_49, rx_49⟩ := ex_get (I := I_26) (a := b_4) (j := 5) (lo := 0) (hi := 940) hU_28.1 hb_4L (ro_o hb_4k (by decide)) rfl
      refine g_getI C K hb_4L hb_4k f_11_102 (v := x_49) hx_49 dX11_left_58 ?_
      refine g_icmp_ge C (tgt := 108) dX11_left_61 (by decide) (fun h_50 => ?_) (fun h_50 => ?_)
      · skip
        refine g_lo (is := [0, 1, 2, 3]) (lo2 := [(0, .ref x), (1, .int v_31), (2, .int v_32), (3, .int v_33)]) rfl ?_
        exact j_108 I_26 J_27 hU_28 hF_29 hG_30 v_31 v_32 (rv_32) v_33 (rv_33) x_49 (rx_49) hx_49 (im_34)
      · skip
        have r_51 := lt_l (hi := 939) (nle h_50) rv_33 rx_49 (by decide)
        have r_52 := lt_r (lo := 1) (nle h_50) rv_33 rx_49 (by decide)
        refine g_iload_n C 2 dX11_left_64 rfl rfl ?_
        refine g_if_eq C (tgt := 108) dX11_left_65 (by decide) (fun h_53 => ?_) (fun h_53 => ?_)
        · skip
          have r_54 := (⟨(rv_32).1, (eq_rg (h_53) rc_0).2⟩ : Rg 0 0 v_32)
          refine g_lo (is := [0, 1, 2, 3]) (lo2 := [(0, .ref x), (1, .int v_31), (2, .int v_32), (3, .int v_33)]) rfl ?_
          exact j_108 I_26 J_27 hU_28 hF_29 hG_30 v_31 v_32 (rg_w r_54 (by decide) (by decide)) v_33 (rg_w r_51 (by decide) (by decide)) x_49 (rg_w r_52 (by decide) (by decide)) hx_49 (fun q => ne_no q r_54 rc_0)
        · skip
          have n_55 : ¬ v_32 = 0 := h_53
          have r_56 := ne_lo (lo := 1) n_55 rv_32 rc_0 rfl (by decide)
          have r_57 := rg_i (rg_all v_31) (im_34 n_55) (lo := 0) (hi := 6) (by decide) (by decide)
          refine g_aload_n C 0 dX11_left_68 rfl rfl ?_
          refine g_getR C K hLx hkx f_11_10 hb_4 dX11_left_69 ?_
          refine g_iload_n C 3 dX11_left_72 rfl rfl ?_
          refine g_callVI C K (c_X10_byteOf W9 hb_4L hb_4k v_33 (r_51) hU_28) hb_4L hb_4k (by decide) rfl v_11_275 rfl ⟨rfl, rfl⟩ ⟨Nat.le_of_ble_eq_true rfl, Nat.le_of_ble_eq_true rfl⟩ (Nat.le_of_ble_eq_true rfl) ⟨Nat.le_of_ble_eq_true rfl, Nat.le_of_ble_eq_true rfl⟩ dX11_left_73 rfl (st := []) (fun x_58 I_59 J_60 h_61 => ?_)
          obtain ⟨rfl, rfl, rx_58⟩ := h_61
          refine g_istore C dX11_left_76 (by decide) (lo2 := [(4, .int x_58), (0, .ref x), (1, .int v_31), (2, .int v_32), (3, .int v_33)]) rfl ?_
          refine g_aload_n C 1 dX11_left_78 rfl rfl ?_
          refine g_getR C K hLx hkx f_11_19 hb_3 dX11_left_79 ?_
          refine g_iload C 0 dX11_left_82 rfl ?_
          refine g_callVI C K (c_X8_hasPerson W9 hb_3L hb_3k x_58  hU_28) hb_3L hb_3k (by decide) rfl v_11_133 rfl ⟨rfl, rfl⟩ ⟨Nat.le_of_ble_eq_true rfl, Nat.le_of_ble_eq_true rfl⟩ (Nat.le_of_ble_eq_true rfl) ⟨Nat.le_of_ble_eq_true rfl, Nat.le_of_ble_eq_true rfl⟩ dX11_left_84 rfl (st := []) (fun x_62 I_63 J_64 h_65 => ?_)
          obtain ⟨rfl, rfl, rx_62, ex_62⟩ := h_65
          refine g_istore_n C dX11_left_87 rfl (by decide) (lo2 := [(2, .int x_62), (4, .int x_58), (0, .ref x), (1, .int v_31), (3, .int v_33)]) rfl ?_
          refine g_iload_n C 0 dX11_left_88 rfl rfl ?_
          refine g_if_eq C (tgt := 102) dX11_left_89 (by decide) (fun h_66 => ?_) (fun h_66 => ?_)
          · skip
            have r_67 := (⟨(rx_62).1, (eq_rg (h_66) rc_0).2⟩ : Rg 0 0 x_62)
            refine g_lo (is := [2, 3, 0, 4, 1]) (lo2 := [(0, .ref x), (1, .int v_31), (2, .int x_62), (3, .int v_33), (4, .int x_58)]) rfl ?_
            exact j_102 I_26 J_27 hU_28 hF_29 hG_30 v_31 (r_57) x_62 (rg_w r_67 (by decide) (by decide)) v_33 (r_51) x_58 (rx_58) x_49 (r_52) hx_49 hm_35
          · skip
            have n_68 : ¬ x_62 = 0 := h_66
            have r_69 := ne_lo (lo := 1) n_68 rx_62 rc_0 rfl (by decide)
            have r_70 := rg_i rx_58 ((ex_62) n_68) (lo := 0) (hi := 6) (by decide) (by decide)
            refine g_aload_n C 2 dX11_left_92 rfl rfl ?_
            refine g_getR C K hLx hkx f_11_32 hb_1 dX11_left_93 ?_
            refine g_iload C 1 dX11_left_96 rfl ?_
            refine g_callVI C K (c_X1_tryToDie W9 hb_1L hb_1k x_58 (r_70) hU_28) hb_1L hb_1k (by decide) rfl v_11_247 rfl ⟨rfl, rfl⟩ ⟨Nat.le_of_ble_eq_true rfl, Nat.le_of_ble_eq_true rfl⟩ (Nat.le_of_ble_eq_true rfl) ⟨Nat.le_of_ble_eq_true rfl, Nat.le_of_ble_eq_true rfl⟩ dX11_left_98 rfl (st := []) (fun x_71 I_72 J_73 h_74 => ?_)
            obtain ⟨hUI_72, hFI_72, hGJ_73, rx_71⟩ := h_74
            have hF_75 := fq_tr hF_29 hFI_72 (by decide)
            have hG_76 := fq_tr hG_30 hGJ_73 (by decide)
            refine g_pop C dX11_left_101 rfl ?_
            refine g_lo (is := [2, 3, 0, 4, 1]) (lo2 := [(0, .ref x), (1, .int v_31), (2, .int x_62), (3, .int v_33), (4, .int x_58)]) rfl ?_
            exact j_102 I_72 J_73 hUI_72 hF_75 hG_76 v_31 (r_57) x_62 (rg_w r_69 (by decide) (by decide)) v_33 (r_51) x_58 (rg_w r_70 (by decide) (by decide)) x_49 (r_52) (fq_at hFI_72 hb_4L hb_4k (by decide) (by decide) hx_49) hm_35
  have j_38 : ∀ (I_77 : Nat → Nat → Int32) (J_78 : Nat → Nat → Int64) (hU_79 : Iv L κ R ow I_77) (hF_80 : Fq L κ ow [107, 108, 109, 110, 111, 112, 1005, 16100, 16200, 16300, 16400, 16500, 16600] I I_77) (hG_81 : Fq L κ ow [] J J_78) (v_82 : Int32), WG p l e { frames := 4, cells := 0, slots := 0, locals := 107 } s m ([.ref x, .int a0] : List Value).toArray below meth c 5 0 0 (MQ below (Qi_ D cy L κ ln R (fun r I2 J2 => Iv L κ R ow I2 ∧ Fq L κ ow [107, 108, 109, 110, 111, 112, 1005, 16100, 16200, 16300, 16400, 16500, 16600] I I2 ∧ Fq L κ ow [] J J2 ∧ Rg (-2147483648) 2147483647 r ∧ (∀ t, R x 0 = some t → (I2 t 5) = 0))) ([.ref x, .int a0] : List Value).toArray s 0 0 (Al_ L)) D cy (Al_ L) s.heap L κ ln R I_77 J_78 38 [(0, .ref x), (1, .int v_82)] [] := by
    intro I_77 J_78 hU_79 hF_80 hG_81 v_82
    refine g_iconst C (v := 0) dX11_left_38 (by decide) ?_
    refine g_istore_n C dX11_left_39 rfl (by decide) (lo2 := [(2, .int 0), (0, .ref x), (1, .int v_82)]) rfl ?_
    refine g_aload_n C 1 dX11_left_40 rfl rfl ?_
    refine g_getR C K hLx hkx f_11_32 hb_1 dX11_left_41 ?_
    refine g_aload_n C 1 dX11_left_44 rfl rfl ?_
    refine g_getR C K hLx hkx f_11_28 hb_2 dX11_left_45 ?_
    refine g_callVV C K (c_X1_become W9 hb_1L hb_1k hb_2L hb_2k  hU_79) hb_1L hb_1k (by decide) rfl v_11_126 rfl ⟨rfl, rfl⟩ ⟨Nat.le_of_ble_eq_true rfl, Nat.le_of_ble_eq_true rfl⟩ (Nat.le_of_ble_eq_true rfl) ⟨Nat.le_of_ble_eq_true rfl, Nat.le_of_ble_eq_true rfl⟩ dX11_left_48 rfl (st := []) (fun I_84 J_85 h_86 => ?_)
    obtain ⟨hUI_84, hFI_84, hGJ_85⟩ := h_86
    have hF_87 := fq_tr hF_80 hFI_84 (by decide)
    have hG_88 := fq_tr hG_81 hGJ_85 (by decide)
    refine g_iconst C (v := 0) dX11_left_51 (by decide) ?_
    refine g_istore_n C dX11_left_52 rfl (by decide) (lo2 := [(3, .int 0), (2, .int 0), (0, .ref x), (1, .int v_82)]) rfl ?_
    refine g_lo (is := [2, 3, 1, 0]) (lo2 := [(0, .ref x), (1, .int v_82), (2, .int 0), (3, .int 0)]) rfl ?_
    exact l_53 941 I_84 J_85 hUI_84 hF_87 hG_88 v_82 0 (rg_w rc_0 (by decide) (by decide)) 0 (rg_w rc_0 (by decide) (by decide)) (fun q => absurd rfl q) (ms_s (a := 0) (b := 940) (N := 941) (rg_w rc_0 (by decide) (by decide)) (by decide))
  refine g_aload_n C 0 dX11_left_0 rfl rfl ?_
  refine g_getR C K hLx hkx f_11_19 hb_3 dX11_left_1 ?_
  refine g_iload_n C 1 dX11_left_4 rfl rfl ?_
  refine g_callVI C K (c_X8_hasPerson W9 hb_3L hb_3k a0  hU) hb_3L hb_3k (by decide) rfl v_11_133 rfl ⟨rfl, rfl⟩ ⟨Nat.le_of_ble_eq_true rfl, Nat.le_of_ble_eq_true rfl⟩ (Nat.le_of_ble_eq_true rfl) ⟨Nat.le_of_ble_eq_true rfl, Nat.le_of_ble_eq_true rfl⟩ dX11_left_5 rfl (st := []) (fun x_89 I_90 J_91 h_92 => ?_)
  obtain ⟨rfl, rfl, rx_89, ex_89⟩ := h_92
  refine g_if_eq C (tgt := 38) dX11_left_8 (by decide) (fun h_93 => ?_) (fun h_93 => ?_)
  · skip
    have r_94 := (⟨(rx_89).1, (eq_rg (h_93) rc_0).2⟩ : Rg 0 0 x_89)
    refine g_lo (is := [0, 1]) (lo2 := [(0, .ref x), (1, .int a0)]) rfl ?_
    exact j_38 I J hU hF hG a0
  · skip
    have n_95 : ¬ x_89 = 0 := h_93
    have r_96 := ne_lo (lo := 1) n_95 rx_89 rc_0 rfl (by decide)
    have r_97 := rg_i (rg_all a0) ((ex_89) n_95) (lo := 0) (hi := 6) (by decide) (by decide)
    refine g_aload_n C 0 dX11_left_11 rfl rfl ?_
    refine g_getR C K hLx hkx f_11_10 hb_4 dX11_left_12 ?_
    obtain ⟨x_98, hx_98, rx_98⟩ := ex_get (I := I) (a := b_4) (j := 5) (lo := 0) (hi := 940) hU.1 hb_4L (ro_o hb_4k (by decide)) rfl
    refine g_getI C K hb_4L hb_4k f_11_102 (v := x_98) hx_98 dX11_left_15 ?_
    refine g_iconst C (v := 1) dX11_left_18 (by decide) ?_
    refine g_icmp_lt C (tgt := 38) dX11_left_19 (by decide) (fun h_99 => ?_) (fun h_99 => ?_)
    · skip
      have r_100 := lt_l (hi := 0) (h_99) rx_98 rc_1 (by decide)
      refine g_lo (is := [0, 1]) (lo2 := [(0, .ref x), (1, .int a0)]) rfl ?_
      exact j_38 I J hU hF hG a0
    · skip
      have r_101 := le_r (nlt h_99) rc_1 rx_98
      refine g_aload_n C 0 dX11_left_22 rfl rfl ?_
      refine g_getR C K hLx hkx f_11_10 hb_4 dX11_left_23 ?_
      refine g_getI C K hb_4L hb_4k f_11_102 (v := x_98) hx_98 dX11_left_26 ?_
      refine g_bipush C (v := 7) dX11_left_29 (by decide) ?_
      refine g_icmp_gt C (tgt := 38) dX11_left_31 (by decide) (fun h_102 => ?_) (fun h_102 => ?_)
      · skip
        have r_103 := lt_r (lo := 8) (h_102) rc_7 r_101 (by decide)
        refine g_lo (is := [0, 1]) (lo2 := [(0, .ref x), (1, .int a0)]) rfl ?_
        exact j_38 I J hU hF hG a0
      · skip
        have r_104 := le_l (nlt h_102) r_101 rc_7
        refine g_iconst C (v := 1) dX11_left_34 (by decide) ?_
        refine g_goto C (tgt := 39) dX11_left_35 (by decide) ?_
        refine g_istore_n C dX11_left_39 rfl (by decide) (lo2 := [(2, .int 1), (0, .ref x), (1, .int a0)]) rfl ?_
        refine g_aload_n C 1 dX11_left_40 rfl rfl ?_
        refine g_getR C K hLx hkx f_11_32 hb_1 dX11_left_41 ?_
        refine g_aload_n C 1 dX11_left_44 rfl rfl ?_
        refine g_getR C K hLx hkx f_11_28 hb_2 dX11_left_45 ?_
        refine g_callVV C K (c_X1_become W9 hb_1L hb_1k hb_2L hb_2k  hU) hb_1L hb_1k (by decide) rfl v_11_126 rfl ⟨rfl, rfl⟩ ⟨Nat.le_of_ble_eq_true rfl, Nat.le_of_ble_eq_true rfl⟩ (Nat.le_of_ble_eq_true rfl) ⟨Nat.le_of_ble_eq_true rfl, Nat.le_of_ble_eq_true rfl⟩ dX11_left_48 rfl (st := []) (fun I_106 J_107 h_108 => ?_)
        obtain ⟨hUI_106, hFI_106, hGJ_107⟩ := h_108
        have hF_109 := fq_tr hF hFI_106 (by decide)
        have hG_110 := fq_tr hG hGJ_107 (by decide)
        refine g_iconst C (v := 0) dX11_left_51 (by decide) ?_
        refine g_istore_n C dX11_left_52 rfl (by decide) (lo2 := [(3, .int 0), (2, .int 1), (0, .ref x), (1, .int a0)]) rfl ?_
        refine g_lo (is := [2, 3, 1, 0]) (lo2 := [(0, .ref x), (1, .int a0), (2, .int 1), (3, .int 0)]) rfl ?_
        exact l_53 941 I_106 J_107 hUI_106 hF_109 hG_110 a0 1 (rg_w rc_1 (by decide) (by decide)) 0 (rg_w rc_0 (by decide) (by decide)) (fun _ => r_97) (ms_s (a := 0) (b := 940) (N := 941) (rg_w rc_0 (by decide) (by decide)) (by decide))
set_option maxRecDepth 100000 in
set_option maxHeartbeats 8000000 in
theorem c_X11_sentence_e {l : Launch} {D : va_G} {cy : Nat → ClassId} {L : List Nat} {κ ln : Nat → Nat} {R : Nat → Nat → Option Nat} {I : Nat → Nat → Int32} {J : Nat → Nat → Int64} {ow : Nat → Nat × Nat} (W9 : ∀ a ∈ L, Shp L κ ln R ow a) {x : Nat} (hLx : x ∈ L) (hkx : κ x = 11) (hU : Iv L κ R ow I) : CtI l yX11_sentence cX11_sentence 1 (some .int) { frames := 29, cells := 0, slots := 0, locals := 709 } D cy L κ ln R I J [.ref x] (fun r I2 J2 => Iv L κ R ow I2 ∧ Fq L κ ow [704, 705, 1005, 1006, 1007, 1008, 1009, 1011, 1012, 52000, 52100, 52200, 70200, 70300] I I2 ∧ Fq L κ ow [1010, 70400] J J2 ∧ Rg (-2147483648) 2147483647 r ∧ (r = fSent (TBf R I J (rr_ R x 1)) (TPf R I J (rr_ R x 0)) (SPf R I J (rr_ R x 8))) ∧ (I2 (rr_ R x 0) 11 = fSentF (TBf R I J (rr_ R x 1)) (TPf R I J (rr_ R x 0)) (SPf R I J (rr_ R x 8))) ∧ (∀ t, R x 0 = some t → (I2 t 5) = 0)) := by
  refine CtI.of (by decide +kernel) (Nat.le_of_ble_eq_true rfl) ?_
  intro p e s m below meth c B K
  have C := B.1
  have hF : Fq L κ ow [704, 705, 1005, 1006, 1007, 1008, 1009, 1011, 1012, 52000, 52100, 52200, 70200, 70300] I I := fq_rf
  have hG : Fq L κ ow [1010, 70400] J J := fq_rf
  obtain ⟨b_1, hb_1, hb_1L, hb_1k⟩ := shp_o (W9 x hLx) hkx 8 7 rfl (by decide)
  obtain ⟨b_2, hb_2, hb_2L, hb_2k⟩ := shp_o (W9 x hLx) hkx 7 7 rfl (by decide)
  obtain ⟨b_3, hb_3, hb_3L, hb_3k⟩ := shp_o (W9 x hLx) hkx 1 8 rfl (by decide)
  obtain ⟨b_4, hb_4, hb_4L, hb_4k⟩ := shp_o (W9 x hLx) hkx 0 10 rfl (by decide)
  obtain ⟨b_5, hb_5, hb_5L, hb_5k, hb_5n, hb_5o⟩ := shp_a (W9 b_3 hb_3L) hb_3k 0 15 7 rfl (by decide)
  obtain ⟨b_6, hb_6, hb_6L, hb_6k, hb_6n, hb_6o⟩ := shp_a (W9 b_3 hb_3L) hb_3k 2 14 7 rfl (by decide)
  obtain ⟨b_7, hb_7, hb_7L, hb_7k, hb_7n, hb_7o⟩ := shp_a (W9 b_3 hb_3L) hb_3k 3 15 6 rfl (by decide)
  have ebqx_1 : ∀ I J, TBf R I J (rr_ R x 1) = TBq I J b_3 b_5 b_6 b_7 := fun I J => by simp only [TBf, rr_, Option.getD_some, hb_5, hb_6, hb_7, hb_3]
  have dbqx_1 : ∀ I J, TBf R I J b_3 = TBq I J b_3 b_5 b_6 b_7 := fun I J => by simp only [TBf, rr_, Option.getD_some, hb_5, hb_6, hb_7, hb_3]
  have wbqx_1 : bqw_ L κ ow b_3 b_5 b_6 b_7 := ⟨⟨hb_3L, hb_5L, hb_6L, hb_7L⟩, ⟨(ro_o hb_3k (by decide)), (ro_a hb_5k (by decide) hb_5o hb_3k rfl), (ro_a hb_6k (by decide) hb_6o hb_3k rfl), (ro_a hb_7k (by decide) hb_7o hb_3k rfl)⟩⟩
  obtain ⟨s_8, hs_8⟩ : ∃ z, TBq I J b_3 b_5 b_6 b_7 = z := ⟨_, rfl⟩
  obtain ⟨b_9, hb_9, hb_9L, hb_9k, hb_9n, hb_9o⟩ := shp_a (W9 b_4 hb_4L) hb_4k 0 13 940 rfl (by decide)
  obtain ⟨b_10, hb_10, hb_10L, hb_10k, hb_10n, hb_10o⟩ := shp_a (W9 b_4 hb_4L) hb_4k 1 15 28 rfl (by decide)
  obtain ⟨b_11, hb_11, hb_11L, hb_11k, hb_11n, hb_11o⟩ := shp_a (W9 b_4 hb_4L) hb_4k 2 14 901 rfl (by decide)
  obtain ⟨b_12, hb_12, hb_12L, hb_12k, hb_12n, hb_12o⟩ := shp_a (W9 b_4 hb_4L) hb_4k 3 14 901 rfl (by decide)
  obtain ⟨b_13, hb_13, hb_13L, hb_13k, hb_13n, hb_13o⟩ := shp_a (W9 b_4 hb_4L) hb_4k 4 15 901 rfl (by decide)
  have etqx_0 : ∀ I J, TPf R I J (rr_ R x 0) = TPq I J b_4 b_9 b_10 b_11 b_12 b_13 := fun I J => by simp only [TPf, rr_, Option.getD_some, hb_9, hb_10, hb_11, hb_12, hb_13, hb_4]
  have dtqx_0 : ∀ I J, TPf R I J b_4 = TPq I J b_4 b_9 b_10 b_11 b_12 b_13 := fun I J => by simp only [TPf, rr_, Option.getD_some, hb_9, hb_10, hb_11, hb_12, hb_13, hb_4]
  have wtqx_0 : tqw_ L κ ow b_4 b_9 b_10 b_11 b_12 b_13 := ⟨⟨hb_4L, hb_9L, hb_10L, hb_11L, hb_12L, hb_13L⟩, ⟨(ro_o hb_4k (by decide)), (ro_a hb_9k (by decide) hb_9o hb_4k rfl), (ro_a hb_10k (by decide) hb_10o hb_4k rfl), (ro_a hb_11k (by decide) hb_11o hb_4k rfl), (ro_a hb_12k (by decide) hb_12o hb_4k rfl), (ro_a hb_13k (by decide) hb_13o hb_4k rfl)⟩⟩
  obtain ⟨s_14, hs_14⟩ : ∃ z, TPq I J b_4 b_9 b_10 b_11 b_12 b_13 = z := ⟨_, rfl⟩
  have esqx_8 : ∀ I J, SPf R I J (rr_ R x 8) = SPq I J b_1 := fun I J => by simp only [SPf, rr_, Option.getD_some, hb_1]
  have dsqx_8 : ∀ I J, SPf R I J b_1 = SPq I J b_1 := fun I J => by simp only [SPf, rr_, Option.getD_some, hb_1]
  have wsqx_8 : sqw_ L κ ow b_1 := ⟨hb_1L, (ro_o hb_1k (by decide))⟩
  obtain ⟨s_15, hs_15⟩ : ∃ z, SPq I J b_1 = z := ⟨_, rfl⟩
  refine g_lo (is := [0]) (lo2 := [(0, .ref x)]) rfl ?_
  refine g_aload_n C 0 dX11_sentence_0 rfl rfl ?_
  refine g_getR C K hLx hkx f_11_63 hb_1 dX11_sentence_1 ?_
  refine g_aload_n C 0 dX11_sentence_4 rfl rfl ?_
  refine g_getR C K hLx hkx f_11_10 hb_4 dX11_sentence_5 ?_
  refine g_aload_n C 0 dX11_sentence_8 rfl rfl ?_
  refine g_getR C K hLx hkx f_11_19 hb_3 dX11_sentence_9 ?_
  refine g_callVI C K (c_X7_readFrom W9 hb_1L hb_1k hb_4L hb_4k hb_3L hb_3k  hU) hb_1L hb_1k (by decide) rfl v_11_362 rfl ⟨rfl, rfl⟩ ⟨Nat.le_of_ble_eq_true rfl, Nat.le_of_ble_eq_true rfl⟩ (Nat.le_of_ble_eq_true rfl) ⟨Nat.le_of_ble_eq_true rfl, Nat.le_of_ble_eq_true rfl⟩ dX11_sentence_12 rfl (st := []) (fun x_16 I_17 J_18 h_19 => ?_)
  obtain ⟨hUI_17, hFI_17, hGJ_18, rx_16, fx_16⟩ := h_19
  have hF_20 := fq_tr hF hFI_17 (by decide)
  have hG_21 := fq_tr hG hGJ_18 (by decide)
  obtain ⟨s_23, hs_23⟩ : ∃ z, TPq I_17 J_18 b_4 b_9 b_10 b_11 b_12 b_13 = z := ⟨_, rfl⟩
  obtain ⟨s_24, hs_24⟩ : ∃ z, SPq I_17 J_18 b_1 = z := ⟨_, rfl⟩
  have c_22 : fSenRead (s_8) (s_14) (s_15) = (x_16, s_23, s_24) := by have q := fx_16; simp only [ebqx_1, dbqx_1, etqx_0, dtqx_0, esqx_8, dsqx_8, hs_8, hs_14, hs_15, hs_23, hs_24] at q; exact q.symm
  have hs_25 : TBq I_17 J_18 b_3 b_5 b_6 b_7 = s_8 := (bq_fq wbqx_1 hFI_17 hGJ_18 (by decide) (by decide)).trans hs_8
  refine g_pop C dX11_sentence_15 rfl ?_
  refine g_aload_n C 0 dX11_sentence_16 rfl rfl ?_
  refine g_getR C K hLx hkx f_11_10 hb_4 dX11_sentence_17 ?_
  refine g_iconst C (v := 0) dX11_sentence_20 (by decide) ?_
  refine h_putI C K hb_4L hb_4k f_11_102 p_10_5 dX11_sentence_21 (fun I_26 hI_26 => ?_)
  have hU_27 := iv_put W9 hUI_17 hI_26 (ro_o hb_4k (by decide)) (lo := 0) (hi := 940) (rfl) (rg_w rc_0 (by decide) (by decide)) rfl
  have hF_28 := fq_puto hF_20 hI_26 hb_4k (by decide) (by decide)
  have hs_29 : TBq I_26 J_18 b_3 b_5 b_6 b_7 = s_8 := by rw [hI_26]; exact (bq_oI wbqx_1 (ro_o hb_4k (by decide)) (by decide)).trans hs_25
  have hs_30 : TPq I_26 J_18 b_4 b_9 b_10 b_11 b_12 b_13 = (TP_.w_len s_23 (0)) := by rw [hI_26]; exact ((tq_len wtqx_0).trans (congrArg (fun z : TP_ => TP_.w_len z (0)) hs_23)).trans rfl
  have hs_31 : SPq I_26 J_18 b_1 = s_24 := by rw [hI_26]; exact (sq_oI wsqx_8 (ro_o hb_4k (by decide)) (by decide)).trans hs_24
  refine g_aload_n C 0 dX11_sentence_24 rfl rfl ?_
  refine g_getR C K hLx hkx f_11_10 hb_4 dX11_sentence_25 ?_
  obtain ⟨x_32, hx_32, rx_32⟩ := ex_get (I := I_26) (a := b_4) (j := 11) (lo := (-2147483648)) (hi := 2147483647) hU_27.1 hb_4L (ro_o hb_4k (by decide)) rfl
  have f_33 : s_23.fault = x_32 := (congrArg TP_.fault hs_30).symm.trans hx_32
  refine g_getI C K hb_4L hb_4k f_11_113 (v := x_32) hx_32 dX11_sentence_28 ?_
  refine g_if_eq C (tgt := 44) dX11_sentence_31 (by decide) (fun h_34 => ?_) (fun h_34 => ?_)
  · skip
    have r_35 := (⟨(eq_rg (h_34) rc_0).1, (eq_rg (h_34) rc_0).2⟩ : Rg 0 0 x_32)
    refine g_aload_n C 0 dX11_sentence_44 rfl rfl ?_
    refine g_getR C K hLx hkx f_11_59 hb_2 dX11_sentence_45 ?_
    refine g_aload_n C 0 dX11_sentence_48 rfl rfl ?_
    refine g_getR C K hLx hkx f_11_63 hb_1 dX11_sentence_49 ?_
    obtain ⟨x_36, hx_36, rx_36⟩ := ex_get (I := I_26) (a := b_1) (j := 5) (lo := (-2147483648)) (hi := 2147483647) hU_27.1 hb_1L (ro_o hb_1k (by decide)) rfl
    have f_37 : s_24.so = x_36 := (congrArg SP_.so hs_31).symm.trans hx_36
    refine g_callVV C K (c_X7_become W9 hb_2L hb_2k hb_1L hb_1k  hU_27) hb_2L hb_2k (by decide) rfl v_11_365 rfl ⟨rfl, rfl⟩ ⟨Nat.le_of_ble_eq_true rfl, Nat.le_of_ble_eq_true rfl⟩ (Nat.le_of_ble_eq_true rfl) ⟨Nat.le_of_ble_eq_true rfl, Nat.le_of_ble_eq_true rfl⟩ dX11_sentence_52 rfl (st := []) (fun I_39 J_40 h_41 => ?_)
    obtain ⟨hUI_39, hFI_39, hGJ_40, ex_38⟩ := h_41
    have hF_42 := fq_tr hF_28 hFI_39 (by decide)
    have hG_43 := fq_tr hG_21 hGJ_40 (by decide)
    have hs_44 : TBq I_39 J_40 b_3 b_5 b_6 b_7 = s_8 := (bq_fq wbqx_1 hFI_39 hGJ_40 (by decide) (by decide)).trans hs_29
    have hs_45 : TPq I_39 J_40 b_4 b_9 b_10 b_11 b_12 b_13 = (TP_.w_len s_23 (0)) := (tq_fq wtqx_0 hFI_39 hGJ_40 (by decide) (by decide)).trans hs_30
    refine g_aload_n C 0 dX11_sentence_55 rfl rfl ?_
    refine g_getR C K hLx hkx f_11_59 hb_2 dX11_sentence_56 ?_
    refine g_getI C K hb_2L hb_2k f_11_368 (v := x_36) (Eq.trans ex_38 hx_36) dX11_sentence_59 ?_
    exact g_zret (ty := .int) (r := x_36) B K rfl (rfl) ⟨hUI_39, hF_42, hG_43, rx_36, (by simp only [fSent, ebqx_1, dbqx_1, hs_44, hs_8, etqx_0, dtqx_0, hs_45, hs_14, esqx_8, dsqx_8, hs_15, c_22, hx_32, f_33, (eq_true h_34), hx_36, f_37, if_true, if_false, bqM_pnm, bqM_par, bqM_dnm, bqM_persons, bqM_dishes, bqM_law, bqM_dogs, TB_.w_pnm, TB_.w_par, TB_.w_dnm, TB_.w_persons, TB_.w_dishes, TB_.w_law, TB_.w_dogs, sqM_sl, sqM_so, SP_.w_sl, SP_.w_so, tqM_by_, tqM_wd, tqM_tk, tqM_pl, tqM_vl, tqM_len, tqM_n, tqM_at_, tqM_token, tqM_place, tqM_value, tqM_fault, tqM_fat, TP_.w_by_, TP_.w_wd, TP_.w_tk, TP_.w_pl, TP_.w_vl, TP_.w_len, TP_.w_n, TP_.w_at_, TP_.w_token, TP_.w_place, TP_.w_value, TP_.w_fault, TP_.w_fat]), (by rw [rr_s hb_4, (fq_at hFI_39 hb_4L hb_4k (by decide) (by decide) hx_32)]; simp only [fSentF, ebqx_1, dbqx_1, hs_44, hs_8, etqx_0, dtqx_0, hs_45, hs_14, esqx_8, dsqx_8, hs_15, c_22, hx_32, f_33, (eq_true h_34), hx_36, f_37, if_true, if_false, bqM_pnm, bqM_par, bqM_dnm, bqM_persons, bqM_dishes, bqM_law, bqM_dogs, TB_.w_pnm, TB_.w_par, TB_.w_dnm, TB_.w_persons, TB_.w_dishes, TB_.w_law, TB_.w_dogs, sqM_sl, sqM_so, SP_.w_sl, SP_.w_so, tqM_by_, tqM_wd, tqM_tk, tqM_pl, tqM_vl, tqM_len, tqM_n, tqM_at_, tqM_token, tqM_place, tqM_value, tqM_fault, tqM_fat, TP_.w_by_, TP_.w_wd, TP_.w_tk, TP_.w_pl, TP_.w_vl, TP_.w_len, TP_.w_n, TP_.w_at_, TP_.w_token, TP_.w_place, TP_.w_value, TP_.w_fault, TP_.w_fat]), (fun t ht => by rw [hb_4] at ht; cases ht; exact (fq_at hFI_39 hb_4L hb_4k (by decide) (by decide) (kp_s hI_26)))⟩ dX11_sentence_62
  · skip
    have n_46 : ¬ x_32 = 0 := h_34
    refine g_iconst C (v := (-1)) dX11_sentence_34 (by decide) ?_
    refine g_aload_n C 0 dX11_sentence_35 rfl rfl ?_
    refine g_getR C K hLx hkx f_11_10 hb_4 dX11_sentence_36 ?_
    obtain ⟨x_47, hx_47, rx_47⟩ := ex_get (I := I_26) (a := b_4) (j := 12) (lo := (-2147483648)) (hi := 2147483647) hU_27.1 hb_4L (ro_o hb_4k (by decide)) rfl
    have f_48 : s_23.fat = x_47 := (congrArg TP_.fat hs_30).symm.trans hx_47
    refine g_getI C K hb_4L hb_4k f_11_116 (v := x_47) hx_47 dX11_sentence_39 ?_
    obtain ⟨x_49, hx_49, rx_49, tx_49⟩ := ex_sub (-2147483648) 2147483647 rc_m1 rx_47 (by decide) (by decide) (by decide) (by decide)
    refine g_isub C (v := x_49) dX11_sentence_42 hx_49 ?_
    exact g_zret (ty := .int) (r := x_49) B K rfl (rfl) ⟨hU_27, hF_28, hG_21, rx_49, (by simp only [fSent, ebqx_1, dbqx_1, hs_29, hs_8, etqx_0, dtqx_0, hs_30, hs_14, esqx_8, dsqx_8, hs_31, hs_15, c_22, hx_32, f_33, h_34, hx_47, f_48, hx_49, if_true, if_false, bqM_pnm, bqM_par, bqM_dnm, bqM_persons, bqM_dishes, bqM_law, bqM_dogs, TB_.w_pnm, TB_.w_par, TB_.w_dnm, TB_.w_persons, TB_.w_dishes, TB_.w_law, TB_.w_dogs, sqM_sl, sqM_so, SP_.w_sl, SP_.w_so, tqM_by_, tqM_wd, tqM_tk, tqM_pl, tqM_vl, tqM_len, tqM_n, tqM_at_, tqM_token, tqM_place, tqM_value, tqM_fault, tqM_fat, TP_.w_by_, TP_.w_wd, TP_.w_tk, TP_.w_pl, TP_.w_vl, TP_.w_len, TP_.w_n, TP_.w_at_, TP_.w_token, TP_.w_place, TP_.w_value, TP_.w_fault, TP_.w_fat]), (by rw [rr_s hb_4, hx_32]; simp only [fSentF, ebqx_1, dbqx_1, hs_29, hs_8, etqx_0, dtqx_0, hs_30, hs_14, esqx_8, dsqx_8, hs_31, hs_15, c_22, hx_32, f_33, h_34, hx_47, f_48, hx_49, if_true, if_false, bqM_pnm, bqM_par, bqM_dnm, bqM_persons, bqM_dishes, bqM_law, bqM_dogs, TB_.w_pnm, TB_.w_par, TB_.w_dnm, TB_.w_persons, TB_.w_dishes, TB_.w_law, TB_.w_dogs, sqM_sl, sqM_so, SP_.w_sl, SP_.w_so, tqM_by_, tqM_wd, tqM_tk, tqM_pl, tqM_vl, tqM_len, tqM_n, tqM_at_, tqM_token, tqM_place, tqM_value, tqM_fault, tqM_fat, TP_.w_by_, TP_.w_wd, TP_.w_tk, TP_.w_pl, TP_.w_vl, TP_.w_len, TP_.w_n, TP_.w_at_, TP_.w_token, TP_.w_place, TP_.w_value, TP_.w_fault, TP_.w_fat]), (fun t ht => by rw [hb_4] at ht; cases ht; exact (kp_s hI_26))⟩ dX11_sentence_43
set_option maxRecDepth 100000 in
set_option maxHeartbeats 8000000 in
theorem c_X11_book_e {l : Launch} {D : va_G} {cy : Nat → ClassId} {L : List Nat} {κ ln : Nat → Nat} {R : Nat → Nat → Option Nat} {I : Nat → Nat → Int32} {J : Nat → Nat → Int64} {ow : Nat → Nat × Nat} (W9 : ∀ a ∈ L, Shp L κ ln R ow a) {x : Nat} (hLx : x ∈ L) (hkx : κ x = 11) (a0 : Int32) (hU : Iv L κ R ow I) : CtI l yX11_book cX11_book 2 (some .int) { frames := 6, cells := 0, slots := 0, locals := 170 } D cy L κ ln R I J [.ref x, .int a0] (fun r I2 J2 => Iv L κ R ow I2 ∧ Fq L κ ow [4, 5, 6, 7, 8, 9, 107, 108, 109, 110, 111, 112, 501, 502, 1005, 1006, 1007, 1008, 1009, 1011, 1012, 10000, 10100, 10200, 10300, 16100, 16200, 16300, 16400, 16500, 16600, 70200, 70300] I I2 ∧ Fq L κ ow [1010, 70400] J J2 ∧ Rg (-2147483648) 2147483647 r ∧ (I2 (rr_ R x 0) 11 = fBookF a0 (TBf R I J (rr_ R x 1)) (TPf R I J (rr_ R x 0)) (KPf R I J (rr_ R x 6))) ∧ (∀ t, R x 0 = some t → Tb_ (I t 5) (I2 t 5) a0)) := by
  obtain ⟨b_1, hb_1, hb_1L, hb_1k⟩ := shp_o (W9 x hLx) hkx 0 10 rfl (by decide)
  obtain ⟨x_2, hx_2, rx_2⟩ := ex_get (I := I) (a := b_1) (j := 5) (lo := 0) (hi := 940) hU.1 hb_1L (ro_o hb_1k (by decide)) rfl
  refine CtI.of (by decide +kernel) (Nat.le_of_ble_eq_true rfl) ?_
  intro p e s m below meth c B K
  have C := B.1
  have hF : Fq L κ ow [4, 5, 6, 7, 8, 9, 107, 108, 109, 110, 111, 112, 501, 502, 1005, 1006, 1007, 1008, 1009, 1011, 1012, 10000, 10100, 10200, 10300, 16100, 16200, 16300, 16400, 16500, 16600, 70200, 70300] I I := fq_rf
  have hG : Fq L κ ow [1010, 70400] J J := fq_rf
  obtain ⟨b_3, hb_3, hb_3L, hb_3k⟩ := shp_o (W9 x hLx) hkx 3 1 rfl (by decide)
  obtain ⟨b_4, hb_4, hb_4L, hb_4k⟩ := shp_o (W9 x hLx) hkx 4 5 rfl (by decide)
  obtain ⟨b_5, hb_5, hb_5L, hb_5k⟩ := shp_o (W9 x hLx) hkx 6 0 rfl (by decide)
  obtain ⟨b_6, hb_6, hb_6L, hb_6k⟩ := shp_o (W9 x hLx) hkx 2 1 rfl (by decide)
  obtain ⟨b_7, hb_7, hb_7L, hb_7k⟩ := shp_o (W9 x hLx) hkx 1 8 rfl (by decide)
  obtain ⟨b_8, hb_8, hb_8L, hb_8k, hb_8n, hb_8o⟩ := shp_a (W9 b_7 hb_7L) hb_7k 0 15 7 rfl (by decide)
  obtain ⟨b_9, hb_9, hb_9L, hb_9k, hb_9n, hb_9o⟩ := shp_a (W9 b_7 hb_7L) hb_7k 2 14 7 rfl (by decide)
  obtain ⟨b_10, hb_10, hb_10L, hb_10k, hb_10n, hb_10o⟩ := shp_a (W9 b_7 hb_7L) hb_7k 3 15 6 rfl (by decide)
  have ebqx_1 : ∀ I J, TBf R I J (rr_ R x 1) = TBq I J b_7 b_8 b_9 b_10 := fun I J => by simp only [TBf, rr_, Option.getD_some, hb_8, hb_9, hb_10, hb_7]
  have dbqx_1 : ∀ I J, TBf R I J b_7 = TBq I J b_7 b_8 b_9 b_10 := fun I J => by simp only [TBf, rr_, Option.getD_some, hb_8, hb_9, hb_10, hb_7]
  have wbqx_1 : bqw_ L κ ow b_7 b_8 b_9 b_10 := ⟨⟨hb_7L, hb_8L, hb_9L, hb_10L⟩, ⟨(ro_o hb_7k (by decide)), (ro_a hb_8k (by decide) hb_8o hb_7k rfl), (ro_a hb_9k (by decide) hb_9o hb_7k rfl), (ro_a hb_10k (by decide) hb_10o hb_7k rfl)⟩⟩
  obtain ⟨s_11, hs_11⟩ : ∃ z, TBq I J b_7 b_8 b_9 b_10 = z := ⟨_, rfl⟩
  obtain ⟨b_12, hb_12, hb_12L, hb_12k, hb_12n, hb_12o⟩ := shp_a (W9 b_1 hb_1L) hb_1k 0 13 940 rfl (by decide)
  obtain ⟨b_13, hb_13, hb_13L, hb_13k, hb_13n, hb_13o⟩ := shp_a (W9 b_1 hb_1L) hb_1k 1 15 28 rfl (by decide)
  obtain ⟨b_14, hb_14, hb_14L, hb_14k, hb_14n, hb_14o⟩ := shp_a (W9 b_1 hb_1L) hb_1k 2 14 901 rfl (by decide)
  obtain ⟨b_15, hb_15, hb_15L, hb_15k, hb_15n, hb_15o⟩ := shp_a (W9 b_1 hb_1L) hb_1k 3 14 901 rfl (by decide)
  obtain ⟨b_16, hb_16, hb_16L, hb_16k, hb_16n, hb_16o⟩ := shp_a (W9 b_1 hb_1L) hb_1k 4 15 901 rfl (by decide)
  have etqx_0 : ∀ I J, TPf R I J (rr_ R x 0) = TPq I J b_1 b_12 b_13 b_14 b_15 b_16 := fun I J => by simp only [TPf, rr_, Option.getD_some, hb_12, hb_13, hb_14, hb_15, hb_16, hb_1]
  have dtqx_0 : ∀ I J, TPf R I J b_1 = TPq I J b_1 b_12 b_13 b_14 b_15 b_16 := fun I J => by simp only [TPf, rr_, Option.getD_some, hb_12, hb_13, hb_14, hb_15, hb_16, hb_1]
  have wtqx_0 : tqw_ L κ ow b_1 b_12 b_13 b_14 b_15 b_16 := ⟨⟨hb_1L, hb_12L, hb_13L, hb_14L, hb_15L, hb_16L⟩, ⟨(ro_o hb_1k (by decide)), (ro_a hb_12k (by decide) hb_12o hb_1k rfl), (ro_a hb_13k (by decide) hb_13o hb_1k rfl), (ro_a hb_14k (by decide) hb_14o hb_1k rfl), (ro_a hb_15k (by decide) hb_15o hb_1k rfl), (ro_a hb_16k (by decide) hb_16o hb_1k rfl)⟩⟩
  obtain ⟨s_17, hs_17⟩ : ∃ z, TPq I J b_1 b_12 b_13 b_14 b_15 b_16 = z := ⟨_, rfl⟩
  obtain ⟨b_18, hb_18, hb_18L, hb_18k, hb_18n, hb_18o⟩ := shp_a (W9 b_5 hb_5L) hb_5k 1 14 40 rfl (by decide)
  have eyqx_6 : ∀ I J, KPf R I J (rr_ R x 6) = KPq I J b_5 b_18 := fun I J => by simp only [KPf, rr_, Option.getD_some, hb_18, hb_5]
  have dyqx_6 : ∀ I J, KPf R I J b_5 = KPq I J b_5 b_18 := fun I J => by simp only [KPf, rr_, Option.getD_some, hb_18, hb_5]
  have wyqx_6 : yqw_ L κ ow b_5 b_18 := ⟨⟨hb_5L, hb_18L⟩, ⟨(ro_o hb_5k (by decide)), (ro_a hb_18k (by decide) hb_18o hb_5k rfl)⟩⟩
  obtain ⟨s_19, hs_19⟩ : ∃ z, KPq I J b_5 b_18 = z := ⟨_, rfl⟩
  refine g_lo (is := [0, 1]) (lo2 := [(0, .ref x), (1, .int a0)]) rfl ?_
  refine g_iload_n C 1 dX11_book_0 rfl rfl ?_
  refine g_if_eq C (tgt := 13) dX11_book_1 (by decide) (fun h_20 => ?_) (fun h_20 => ?_)
  · skip
    have r_21 := (⟨(eq_rg (h_20) rc_0).1, (eq_rg (h_20) rc_0).2⟩ : Rg 0 0 a0)
    refine g_aload_n C 0 dX11_book_13 rfl rfl ?_
    refine g_getR C K hLx hkx f_11_52 hb_5 dX11_book_14 ?_
    refine g_aload_n C 0 dX11_book_17 rfl rfl ?_
    refine g_getR C K hLx hkx f_11_10 hb_1 dX11_book_18 ?_
    refine g_aload_n C 0 dX11_book_21 rfl rfl ?_
    refine g_getR C K hLx hkx f_11_19 hb_7 dX11_book_22 ?_
    refine g_callVV C K (c_X0_readFrom W9 hb_5L hb_5k hb_1L hb_1k hb_7L hb_7k  hU) hb_5L hb_5k (by decide) rfl v_11_340 rfl ⟨rfl, rfl⟩ ⟨Nat.le_of_ble_eq_true rfl, Nat.le_of_ble_eq_true rfl⟩ (Nat.le_of_ble_eq_true rfl) ⟨Nat.le_of_ble_eq_true rfl, Nat.le_of_ble_eq_true rfl⟩ dX11_book_25 rfl (st := []) (fun I_23 J_24 h_25 => ?_)
    obtain ⟨hUI_23, hFI_23, hGJ_24, fx_22⟩ := h_25
    have hF_26 := fq_tr hF hFI_23 (by decide)
    have hG_27 := fq_tr hG hGJ_24 (by decide)
    obtain ⟨s_29, hs_29⟩ : ∃ z, TPq I_23 J_24 b_1 b_12 b_13 b_14 b_15 b_16 = z := ⟨_, rfl⟩
    obtain ⟨s_30, hs_30⟩ : ∃ z, KPq I_23 J_24 b_5 b_18 = z := ⟨_, rfl⟩
    have c_28 : fBook (s_11) (s_17) (s_19) = (s_29, s_30) := by have q := fx_22; simp only [ebqx_1, dbqx_1, etqx_0, dtqx_0, eyqx_6, dyqx_6, hs_11, hs_17, hs_19, hs_29, hs_30] at q; exact q.symm
    have hs_31 : TBq I_23 J_24 b_7 b_8 b_9 b_10 = s_11 := (bq_fq wbqx_1 hFI_23 hGJ_24 (by decide) (by decide)).trans hs_11
    refine g_aload_n C 0 dX11_book_28 rfl rfl ?_
    refine g_getR C K hLx hkx f_11_10 hb_1 dX11_book_29 ?_
    refine g_iconst C (v := 0) dX11_book_32 (by decide) ?_
    refine h_putI C K hb_1L hb_1k f_11_102 p_10_5 dX11_book_33 (fun I_32 hI_32 => ?_)
    have hU_33 := iv_put W9 hUI_23 hI_32 (ro_o hb_1k (by decide)) (lo := 0) (hi := 940) (rfl) (rg_w rc_0 (by decide) (by decide)) rfl
    have hF_34 := fq_puto hF_26 hI_32 hb_1k (by decide) (by decide)
    have hs_35 : TBq I_32 J_24 b_7 b_8 b_9 b_10 = s_11 := by rw [hI_32]; exact (bq_oI wbqx_1 (ro_o hb_1k (by decide)) (by decide)).trans hs_31
    have hs_36 : TPq I_32 J_24 b_1 b_12 b_13 b_14 b_15 b_16 = (TP_.w_len s_29 (0)) := by rw [hI_32]; exact ((tq_len wtqx_0).trans (congrArg (fun z : TP_ => TP_.w_len z (0)) hs_29)).trans rfl
    have hs_37 : KPq I_32 J_24 b_5 b_18 = s_30 := by rw [hI_32]; exact (yq_oI wyqx_6 (ro_o hb_1k (by decide)) (by decide)).trans hs_30
    refine g_aload_n C 0 dX11_book_36 rfl rfl ?_
    refine g_getR C K hLx hkx f_11_10 hb_1 dX11_book_37 ?_
    obtain ⟨x_38, hx_38, rx_38⟩ := ex_get (I := I_32) (a := b_1) (j := 11) (lo := (-2147483648)) (hi := 2147483647) hU_33.1 hb_1L (ro_o hb_1k (by decide)) rfl
    have f_39 : s_29.fault = x_38 := (congrArg TP_.fault hs_36).symm.trans hx_38
    refine g_getI C K hb_1L hb_1k f_11_113 (v := x_38) hx_38 dX11_book_40 ?_
    refine g_if_eq C (tgt := 57) dX11_book_43 (by decide) (fun h_40 => ?_) (fun h_40 => ?_)
    · skip
      have r_41 := (⟨(eq_rg (h_40) rc_0).1, (eq_rg (h_40) rc_0).2⟩ : Rg 0 0 x_38)
      refine g_aload_n C 0 dX11_book_57 rfl rfl ?_
      refine g_getR C K hLx hkx f_11_32 hb_3 dX11_book_58 ?_
      refine g_aload_n C 0 dX11_book_61 rfl rfl ?_
      refine g_getR C K hLx hkx f_11_28 hb_6 dX11_book_62 ?_
      refine g_callVV C K (c_X1_become W9 hb_3L hb_3k hb_6L hb_6k  hU_33) hb_3L hb_3k (by decide) rfl v_11_126 rfl ⟨rfl, rfl⟩ ⟨Nat.le_of_ble_eq_true rfl, Nat.le_of_ble_eq_true rfl⟩ (Nat.le_of_ble_eq_true rfl) ⟨Nat.le_of_ble_eq_true rfl, Nat.le_of_ble_eq_true rfl⟩ dX11_book_65 rfl (st := []) (fun I_43 J_44 h_45 => ?_)
      obtain ⟨hUI_43, hFI_43, hGJ_44⟩ := h_45
      have hF_46 := fq_tr hF_34 hFI_43 (by decide)
      have hG_47 := fq_tr hG_27 hGJ_44 (by decide)
      have hs_48 : TBq I_43 J_44 b_7 b_8 b_9 b_10 = s_11 := (bq_fq wbqx_1 hFI_43 hGJ_44 (by decide) (by decide)).trans hs_35
      have hs_49 : TPq I_43 J_44 b_1 b_12 b_13 b_14 b_15 b_16 = (TP_.w_len s_29 (0)) := (tq_fq wtqx_0 hFI_43 hGJ_44 (by decide) (by decide)).trans hs_36
      have hs_50 : KPq I_43 J_44 b_5 b_18 = s_30 := (yq_fq wyqx_6 hFI_43 hGJ_44 (by decide) (by decide)).trans hs_37
      refine g_aload_n C 0 dX11_book_68 rfl rfl ?_
      refine g_getR C K hLx hkx f_11_52 hb_5 dX11_book_69 ?_
      refine g_aload_n C 0 dX11_book_72 rfl rfl ?_
      refine g_getR C K hLx hkx f_11_32 hb_3 dX11_book_73 ?_
      refine g_callVV C K (c_X0_judgeBy W9 hb_5L hb_5k hb_3L hb_3k  hUI_43) hb_5L hb_5k (by decide) rfl v_11_343 rfl ⟨rfl, rfl⟩ ⟨Nat.le_of_ble_eq_true rfl, Nat.le_of_ble_eq_true rfl⟩ (Nat.le_of_ble_eq_true rfl) ⟨Nat.le_of_ble_eq_true rfl, Nat.le_of_ble_eq_true rfl⟩ dX11_book_76 rfl (st := []) (fun I_52 J_53 h_54 => ?_)
      obtain ⟨hUI_52, hFI_52, hGJ_53⟩ := h_54
      have hF_55 := fq_tr hF_46 hFI_52 (by decide)
      have hG_56 := fq_tr hG_47 hGJ_53 (by decide)
      have hs_57 : TBq I_52 J_53 b_7 b_8 b_9 b_10 = s_11 := (bq_fq wbqx_1 hFI_52 hGJ_53 (by decide) (by decide)).trans hs_48
      have hs_58 : TPq I_52 J_53 b_1 b_12 b_13 b_14 b_15 b_16 = (TP_.w_len s_29 (0)) := (tq_fq wtqx_0 hFI_52 hGJ_53 (by decide) (by decide)).trans hs_49
      have hs_59 : KPq I_52 J_53 b_5 b_18 = s_30 := (yq_fq wyqx_6 hFI_52 hGJ_53 (by decide) (by decide)).trans hs_50
      refine g_iload_n C 1 dX11_book_79 rfl rfl ?_
      refine g_iconst C (v := 1) dX11_book_80 (by decide) ?_
      refine g_icmp_ne C (tgt := 113) dX11_book_81 (by decide) (fun h_60 => ?_) (fun h_60 => ?_)
      · skip
        have n_61 : ¬ a0 = 1 := h_60
        refine g_aload_n C 0 dX11_book_113 rfl rfl ?_
        refine g_getR C K hLx hkx f_11_52 hb_5 dX11_book_114 ?_
        obtain ⟨x_62, hx_62, rx_62⟩ := ex_get (I := I_52) (a := b_5) (j := 6) (lo := (-2147483648)) (hi := 2147483647) hUI_52.1 hb_5L (ro_o hb_5k (by decide)) rfl
        refine g_getI C K hb_5L hb_5k f_11_346 (v := x_62) hx_62 dX11_book_117 ?_
        refine g_if_ne C (tgt := 127) dX11_book_120 (by decide) (fun h_63 => ?_) (fun h_63 => ?_)
        · skip
          have n_64 : ¬ x_62 = 0 := h_63
          refine g_aload_n C 0 dX11_book_127 rfl rfl ?_
          refine g_getR C K hLx hkx f_11_52 hb_5 dX11_book_128 ?_
          obtain ⟨x_65, hx_65, rx_65⟩ := ex_get (I := I_52) (a := b_5) (j := 7) (lo := 0) (hi := 40) hUI_52.1 hb_5L (ro_o hb_5k (by decide)) rfl
          refine g_getI C K hb_5L hb_5k f_11_349 (v := x_65) hx_65 dX11_book_131 ?_
          exact g_zret (ty := .int) (r := x_65) B K rfl (rfl) ⟨hUI_52, hF_55, hG_56, rg_all _, (by rw [rr_s hb_1, (fq_at hFI_52 hb_1L hb_1k (by decide) (by decide) (fq_at hFI_43 hb_1L hb_1k (by decide) (by decide) hx_38))]; simp only [fBookF, ebqx_1, dbqx_1, hs_57, hs_11, etqx_0, dtqx_0, hs_58, hs_17, eyqx_6, dyqx_6, hs_59, hs_19, hx_2, (eq_true h_20), c_28, hx_38, f_39, (eq_true h_40), h_60, hx_62, h_63, hx_65, if_true, if_false, bqM_pnm, bqM_par, bqM_dnm, bqM_persons, bqM_dishes, bqM_law, bqM_dogs, TB_.w_pnm, TB_.w_par, TB_.w_dnm, TB_.w_persons, TB_.w_dishes, TB_.w_law, TB_.w_dogs, yqM_bw, yqM_bl, KP_.w_bw, KP_.w_bl, tqM_by_, tqM_wd, tqM_tk, tqM_pl, tqM_vl, tqM_len, tqM_n, tqM_at_, tqM_token, tqM_place, tqM_value, tqM_fault, tqM_fat, TP_.w_by_, TP_.w_wd, TP_.w_tk, TP_.w_pl, TP_.w_vl, TP_.w_len, TP_.w_n, TP_.w_at_, TP_.w_token, TP_.w_place, TP_.w_value, TP_.w_fault, TP_.w_fat]), (fun t ht => by rw [hb_1] at ht; cases ht; exact Or.inl ⟨Or.inl (rg_1k r_21 rc_0), (fq_at hFI_52 hb_1L hb_1k (by decide) (by decide) (fq_at hFI_43 hb_1L hb_1k (by decide) (by decide) (kp_s hI_32)))⟩)⟩ dX11_book_134
        · skip
          have r_66 := (⟨(eq_rg (h_63) rc_0).1, (eq_rg (h_63) rc_0).2⟩ : Rg 0 0 x_62)
          refine g_iconst C (v := (-1)) dX11_book_123 (by decide) ?_
          refine g_goto C (tgt := 134) dX11_book_124 (by decide) ?_
          exact g_zret (ty := .int) (r := (-1)) B K rfl (rfl) ⟨hUI_52, hF_55, hG_56, rg_all _, (by rw [rr_s hb_1, (fq_at hFI_52 hb_1L hb_1k (by decide) (by decide) (fq_at hFI_43 hb_1L hb_1k (by decide) (by decide) hx_38))]; simp only [fBookF, ebqx_1, dbqx_1, hs_57, hs_11, etqx_0, dtqx_0, hs_58, hs_17, eyqx_6, dyqx_6, hs_59, hs_19, hx_2, (eq_true h_20), c_28, hx_38, f_39, (eq_true h_40), h_60, hx_62, (eq_true h_63), if_true, if_false, bqM_pnm, bqM_par, bqM_dnm, bqM_persons, bqM_dishes, bqM_law, bqM_dogs, TB_.w_pnm, TB_.w_par, TB_.w_dnm, TB_.w_persons, TB_.w_dishes, TB_.w_law, TB_.w_dogs, yqM_bw, yqM_bl, KP_.w_bw, KP_.w_bl, tqM_by_, tqM_wd, tqM_tk, tqM_pl, tqM_vl, tqM_len, tqM_n, tqM_at_, tqM_token, tqM_place, tqM_value, tqM_fault, tqM_fat, TP_.w_by_, TP_.w_wd, TP_.w_tk, TP_.w_pl, TP_.w_vl, TP_.w_len, TP_.w_n, TP_.w_at_, TP_.w_token, TP_.w_place, TP_.w_value, TP_.w_fault, TP_.w_fat]), (fun t ht => by rw [hb_1] at ht; cases ht; exact Or.inl ⟨Or.inl (rg_1k r_21 rc_0), (fq_at hFI_52 hb_1L hb_1k (by decide) (by decide) (fq_at hFI_43 hb_1L hb_1k (by decide) (by decide) (kp_s hI_32)))⟩)⟩ dX11_book_134
      · skip
        exact eq_no (h_60) r_21 rc_1 (by decide)
    · skip
      have n_67 : ¬ x_38 = 0 := h_40
      refine g_bipush C (v := (-2)) dX11_book_46 (by decide) ?_
      refine g_aload_n C 0 dX11_book_48 rfl rfl ?_
      refine g_getR C K hLx hkx f_11_10 hb_1 dX11_book_49 ?_
      obtain ⟨x_68, hx_68, rx_68⟩ := ex_get (I := I_32) (a := b_1) (j := 12) (lo := (-2147483648)) (hi := 2147483647) hU_33.1 hb_1L (ro_o hb_1k (by decide)) rfl
      have f_69 : s_29.fat = x_68 := (congrArg TP_.fat hs_36).symm.trans hx_68
      refine g_getI C K hb_1L hb_1k f_11_116 (v := x_68) hx_68 dX11_book_52 ?_
      obtain ⟨x_70, hx_70, rx_70⟩ := ex_any (z0 := (-2) - x_68)
      refine g_isub C (v := x_70) dX11_book_55 hx_70 ?_
      exact g_zret (ty := .int) (r := x_70) B K rfl (rfl) ⟨hU_33, hF_34, hG_27, rx_70, (by rw [rr_s hb_1, hx_38]; simp only [fBookF, ebqx_1, dbqx_1, hs_35, hs_11, etqx_0, dtqx_0, hs_36, hs_17, eyqx_6, dyqx_6, hs_37, hs_19, hx_2, (eq_true h_20), c_28, hx_38, f_39, h_40, hx_68, f_69, hx_70, if_true, if_false, bqM_pnm, bqM_par, bqM_dnm, bqM_persons, bqM_dishes, bqM_law, bqM_dogs, TB_.w_pnm, TB_.w_par, TB_.w_dnm, TB_.w_persons, TB_.w_dishes, TB_.w_law, TB_.w_dogs, yqM_bw, yqM_bl, KP_.w_bw, KP_.w_bl, tqM_by_, tqM_wd, tqM_tk, tqM_pl, tqM_vl, tqM_len, tqM_n, tqM_at_, tqM_token, tqM_place, tqM_value, tqM_fault, tqM_fat, TP_.w_by_, TP_.w_wd, TP_.w_tk, TP_.w_pl, TP_.w_vl, TP_.w_len, TP_.w_n, TP_.w_at_, TP_.w_token, TP_.w_place, TP_.w_value, TP_.w_fault, TP_.w_fat]), (fun t ht => by rw [hb_1] at ht; cases ht; exact Or.inl ⟨Or.inl (rg_1k r_21 rc_0), (kp_s hI_32)⟩)⟩ dX11_book_56
  · skip
    have n_71 : ¬ a0 = 0 := h_20
    refine g_iload_n C 1 dX11_book_4 rfl rfl ?_
    refine g_iconst C (v := 1) dX11_book_5 (by decide) ?_
    refine g_icmp_eq C (tgt := 13) dX11_book_6 (by decide) (fun h_72 => ?_) (fun h_72 => ?_)
    · skip
      have r_73 := (⟨(eq_rg (h_72) rc_1).1, (eq_rg (h_72) rc_1).2⟩ : Rg 1 1 a0)
      refine g_aload_n C 0 dX11_book_13 rfl rfl ?_
      refine g_getR C K hLx hkx f_11_52 hb_5 dX11_book_14 ?_
      refine g_aload_n C 0 dX11_book_17 rfl rfl ?_
      refine g_getR C K hLx hkx f_11_10 hb_1 dX11_book_18 ?_
      refine g_aload_n C 0 dX11_book_21 rfl rfl ?_
      refine g_getR C K hLx hkx f_11_19 hb_7 dX11_book_22 ?_
      refine g_callVV C K (c_X0_readFrom W9 hb_5L hb_5k hb_1L hb_1k hb_7L hb_7k  hU) hb_5L hb_5k (by decide) rfl v_11_340 rfl ⟨rfl, rfl⟩ ⟨Nat.le_of_ble_eq_true rfl, Nat.le_of_ble_eq_true rfl⟩ (Nat.le_of_ble_eq_true rfl) ⟨Nat.le_of_ble_eq_true rfl, Nat.le_of_ble_eq_true rfl⟩ dX11_book_25 rfl (st := []) (fun I_75 J_76 h_77 => ?_)
      obtain ⟨hUI_75, hFI_75, hGJ_76, fx_74⟩ := h_77
      have hF_78 := fq_tr hF hFI_75 (by decide)
      have hG_79 := fq_tr hG hGJ_76 (by decide)
      obtain ⟨s_81, hs_81⟩ : ∃ z, TPq I_75 J_76 b_1 b_12 b_13 b_14 b_15 b_16 = z := ⟨_, rfl⟩
      obtain ⟨s_82, hs_82⟩ : ∃ z, KPq I_75 J_76 b_5 b_18 = z := ⟨_, rfl⟩
      have c_80 : fBook (s_11) (s_17) (s_19) = (s_81, s_82) := by have q := fx_74; simp only [ebqx_1, dbqx_1, etqx_0, dtqx_0, eyqx_6, dyqx_6, hs_11, hs_17, hs_19, hs_81, hs_82] at q; exact q.symm
      have hs_83 : TBq I_75 J_76 b_7 b_8 b_9 b_10 = s_11 := (bq_fq wbqx_1 hFI_75 hGJ_76 (by decide) (by decide)).trans hs_11
      refine g_aload_n C 0 dX11_book_28 rfl rfl ?_
      refine g_getR C K hLx hkx f_11_10 hb_1 dX11_book_29 ?_
      refine g_iconst C (v := 0) dX11_book_32 (by decide) ?_
      refine h_putI C K hb_1L hb_1k f_11_102 p_10_5 dX11_book_33 (fun I_84 hI_84 => ?_)
      have hU_85 := iv_put W9 hUI_75 hI_84 (ro_o hb_1k (by decide)) (lo := 0) (hi := 940) (rfl) (rg_w rc_0 (by decide) (by decide)) rfl
      have hF_86 := fq_puto hF_78 hI_84 hb_1k (by decide) (by decide)
      have hs_87 : TBq I_84 J_76 b_7 b_8 b_9 b_10 = s_11 := by rw [hI_84]; exact (bq_oI wbqx_1 (ro_o hb_1k (by decide)) (by decide)).trans hs_83
      have hs_88 : TPq I_84 J_76 b_1 b_12 b_13 b_14 b_15 b_16 = (TP_.w_len s_81 (0)) := by rw [hI_84]; exact ((tq_len wtqx_0).trans (congrArg (fun z : TP_ => TP_.w_len z (0)) hs_81)).trans rfl
      have hs_89 : KPq I_84 J_76 b_5 b_18 = s_82 := by rw [hI_84]; exact (yq_oI wyqx_6 (ro_o hb_1k (by decide)) (by decide)).trans hs_82
      refine g_aload_n C 0 dX11_book_36 rfl rfl ?_
      refine g_getR C K hLx hkx f_11_10 hb_1 dX11_book_37 ?_
      obtain ⟨x_90, hx_90, rx_90⟩ := ex_get (I := I_84) (a := b_1) (j := 11) (lo := (-2147483648)) (hi := 2147483647) hU_85.1 hb_1L (ro_o hb_1k (by decide)) rfl
      have f_91 : s_81.fault = x_90 := (congrArg TP_.fault hs_88).symm.trans hx_90
      refine g_getI C K hb_1L hb_1k f_11_113 (v := x_90) hx_90 dX11_book_40 ?_
      refine g_if_eq C (tgt := 57) dX11_book_43 (by decide) (fun h_92 => ?_) (fun h_92 => ?_)
      · skip
        have r_93 := (⟨(eq_rg (h_92) rc_0).1, (eq_rg (h_92) rc_0).2⟩ : Rg 0 0 x_90)
        refine g_aload_n C 0 dX11_book_57 rfl rfl ?_
        refine g_getR C K hLx hkx f_11_32 hb_3 dX11_book_58 ?_
        refine g_aload_n C 0 dX11_book_61 rfl rfl ?_
        refine g_getR C K hLx hkx f_11_28 hb_6 dX11_book_62 ?_
        refine g_callVV C K (c_X1_become W9 hb_3L hb_3k hb_6L hb_6k  hU_85) hb_3L hb_3k (by decide) rfl v_11_126 rfl ⟨rfl, rfl⟩ ⟨Nat.le_of_ble_eq_true rfl, Nat.le_of_ble_eq_true rfl⟩ (Nat.le_of_ble_eq_true rfl) ⟨Nat.le_of_ble_eq_true rfl, Nat.le_of_ble_eq_true rfl⟩ dX11_book_65 rfl (st := []) (fun I_95 J_96 h_97 => ?_)
        obtain ⟨hUI_95, hFI_95, hGJ_96⟩ := h_97
        have hF_98 := fq_tr hF_86 hFI_95 (by decide)
        have hG_99 := fq_tr hG_79 hGJ_96 (by decide)
        have hs_100 : TBq I_95 J_96 b_7 b_8 b_9 b_10 = s_11 := (bq_fq wbqx_1 hFI_95 hGJ_96 (by decide) (by decide)).trans hs_87
        have hs_101 : TPq I_95 J_96 b_1 b_12 b_13 b_14 b_15 b_16 = (TP_.w_len s_81 (0)) := (tq_fq wtqx_0 hFI_95 hGJ_96 (by decide) (by decide)).trans hs_88
        have hs_102 : KPq I_95 J_96 b_5 b_18 = s_82 := (yq_fq wyqx_6 hFI_95 hGJ_96 (by decide) (by decide)).trans hs_89
        refine g_aload_n C 0 dX11_book_68 rfl rfl ?_
        refine g_getR C K hLx hkx f_11_52 hb_5 dX11_book_69 ?_
        refine g_aload_n C 0 dX11_book_72 rfl rfl ?_
        refine g_getR C K hLx hkx f_11_32 hb_3 dX11_book_73 ?_
        refine g_callVV C K (c_X0_judgeBy W9 hb_5L hb_5k hb_3L hb_3k  hUI_95) hb_5L hb_5k (by decide) rfl v_11_343 rfl ⟨rfl, rfl⟩ ⟨Nat.le_of_ble_eq_true rfl, Nat.le_of_ble_eq_true rfl⟩ (Nat.le_of_ble_eq_true rfl) ⟨Nat.le_of_ble_eq_true rfl, Nat.le_of_ble_eq_true rfl⟩ dX11_book_76 rfl (st := []) (fun I_104 J_105 h_106 => ?_)
        obtain ⟨hUI_104, hFI_104, hGJ_105⟩ := h_106
        have hF_107 := fq_tr hF_98 hFI_104 (by decide)
        have hG_108 := fq_tr hG_99 hGJ_105 (by decide)
        have hs_109 : TBq I_104 J_105 b_7 b_8 b_9 b_10 = s_11 := (bq_fq wbqx_1 hFI_104 hGJ_105 (by decide) (by decide)).trans hs_100
        have hs_110 : TPq I_104 J_105 b_1 b_12 b_13 b_14 b_15 b_16 = (TP_.w_len s_81 (0)) := (tq_fq wtqx_0 hFI_104 hGJ_105 (by decide) (by decide)).trans hs_101
        have hs_111 : KPq I_104 J_105 b_5 b_18 = s_82 := (yq_fq wyqx_6 hFI_104 hGJ_105 (by decide) (by decide)).trans hs_102
        refine g_iload_n C 1 dX11_book_79 rfl rfl ?_
        refine g_iconst C (v := 1) dX11_book_80 (by decide) ?_
        refine g_icmp_ne C (tgt := 113) dX11_book_81 (by decide) (fun h_112 => ?_) (fun h_112 => ?_)
        · skip
          exact ne_no (h_112) r_73 rc_1
        · skip
          refine g_aload_n C 0 dX11_book_84 rfl rfl ?_
          refine g_getR C K hLx hkx f_11_38 hb_4 dX11_book_85 ?_
          refine g_aload_n C 0 dX11_book_88 rfl rfl ?_
          refine g_getR C K hLx hkx f_11_28 hb_6 dX11_book_89 ?_
          refine g_callVV C K (c_X5_note W9 hb_4L hb_4k hb_6L hb_6k  hUI_104) hb_4L hb_4k (by decide) rfl v_11_225 rfl ⟨rfl, rfl⟩ ⟨Nat.le_of_ble_eq_true rfl, Nat.le_of_ble_eq_true rfl⟩ (Nat.le_of_ble_eq_true rfl) ⟨Nat.le_of_ble_eq_true rfl, Nat.le_of_ble_eq_true rfl⟩ dX11_book_92 rfl (st := []) (fun I_114 J_115 h_116 => ?_)
          obtain ⟨hUI_114, hFI_114, hGJ_115⟩ := h_116
          have hF_117 := fq_tr hF_107 hFI_114 (by decide)
          have hG_118 := fq_tr hG_108 hGJ_115 (by decide)
          have hs_119 : TBq I_114 J_115 b_7 b_8 b_9 b_10 = s_11 := (bq_fq wbqx_1 hFI_114 hGJ_115 (by decide) (by decide)).trans hs_109
          have hs_120 : TPq I_114 J_115 b_1 b_12 b_13 b_14 b_15 b_16 = (TP_.w_len s_81 (0)) := (tq_fq wtqx_0 hFI_114 hGJ_115 (by decide) (by decide)).trans hs_110
          have hs_121 : KPq I_114 J_115 b_5 b_18 = s_82 := (yq_fq wyqx_6 hFI_114 hGJ_115 (by decide) (by decide)).trans hs_111
          refine g_aload_n C 0 dX11_book_95 rfl rfl ?_
          refine g_getR C K hLx hkx f_11_38 hb_4 dX11_book_96 ?_
          refine g_callVV C K (c_X5_keepNoted W9 hb_4L hb_4k   hUI_114) hb_4L hb_4k (by decide) rfl v_11_260 rfl ⟨rfl, rfl⟩ ⟨Nat.le_of_ble_eq_true rfl, Nat.le_of_ble_eq_true rfl⟩ (Nat.le_of_ble_eq_true rfl) ⟨Nat.le_of_ble_eq_true rfl, Nat.le_of_ble_eq_true rfl⟩ dX11_book_99 rfl (st := []) (fun I_123 J_124 h_125 => ?_)
          obtain ⟨hUI_123, hFI_123, hGJ_124⟩ := h_125
          have hF_126 := fq_tr hF_117 hFI_123 (by decide)
          have hG_127 := fq_tr hG_118 hGJ_124 (by decide)
          have hs_128 : TBq I_123 J_124 b_7 b_8 b_9 b_10 = s_11 := (bq_fq wbqx_1 hFI_123 hGJ_124 (by decide) (by decide)).trans hs_119
          have hs_129 : TPq I_123 J_124 b_1 b_12 b_13 b_14 b_15 b_16 = (TP_.w_len s_81 (0)) := (tq_fq wtqx_0 hFI_123 hGJ_124 (by decide) (by decide)).trans hs_120
          have hs_130 : KPq I_123 J_124 b_5 b_18 = s_82 := (yq_fq wyqx_6 hFI_123 hGJ_124 (by decide) (by decide)).trans hs_121
          refine g_aload_n C 0 dX11_book_102 rfl rfl ?_
          refine g_getR C K hLx hkx f_11_28 hb_6 dX11_book_103 ?_
          refine g_aload_n C 0 dX11_book_106 rfl rfl ?_
          refine g_getR C K hLx hkx f_11_32 hb_3 dX11_book_107 ?_
          refine g_callVV C K (c_X1_become W9 hb_6L hb_6k hb_3L hb_3k  hUI_123) hb_6L hb_6k (by decide) rfl v_11_126 rfl ⟨rfl, rfl⟩ ⟨Nat.le_of_ble_eq_true rfl, Nat.le_of_ble_eq_true rfl⟩ (Nat.le_of_ble_eq_true rfl) ⟨Nat.le_of_ble_eq_true rfl, Nat.le_of_ble_eq_true rfl⟩ dX11_book_110 rfl (st := []) (fun I_132 J_133 h_134 => ?_)
          obtain ⟨hUI_132, hFI_132, hGJ_133⟩ := h_134
          have hF_135 := fq_tr hF_126 hFI_132 (by decide)
          have hG_136 := fq_tr hG_127 hGJ_133 (by decide)
          have hs_137 : TBq I_132 J_133 b_7 b_8 b_9 b_10 = s_11 := (bq_fq wbqx_1 hFI_132 hGJ_133 (by decide) (by decide)).trans hs_128
          have hs_138 : TPq I_132 J_133 b_1 b_12 b_13 b_14 b_15 b_16 = (TP_.w_len s_81 (0)) := (tq_fq wtqx_0 hFI_132 hGJ_133 (by decide) (by decide)).trans hs_129
          have hs_139 : KPq I_132 J_133 b_5 b_18 = s_82 := (yq_fq wyqx_6 hFI_132 hGJ_133 (by decide) (by decide)).trans hs_130
          refine g_aload_n C 0 dX11_book_113 rfl rfl ?_
          refine g_getR C K hLx hkx f_11_52 hb_5 dX11_book_114 ?_
          obtain ⟨x_140, hx_140, rx_140⟩ := ex_get (I := I_132) (a := b_5) (j := 6) (lo := (-2147483648)) (hi := 2147483647) hUI_132.1 hb_5L (ro_o hb_5k (by decide)) rfl
          refine g_getI C K hb_5L hb_5k f_11_346 (v := x_140) hx_140 dX11_book_117 ?_
          refine g_if_ne C (tgt := 127) dX11_book_120 (by decide) (fun h_141 => ?_) (fun h_141 => ?_)
          · skip
            have n_142 : ¬ x_140 = 0 := h_141
            refine g_aload_n C 0 dX11_book_127 rfl rfl ?_
            refine g_getR C K hLx hkx f_11_52 hb_5 dX11_book_128 ?_
            obtain ⟨x_143, hx_143, rx_143⟩ := ex_get (I := I_132) (a := b_5) (j := 7) (lo := 0) (hi := 40) hUI_132.1 hb_5L (ro_o hb_5k (by decide)) rfl
            refine g_getI C K hb_5L hb_5k f_11_349 (v := x_143) hx_143 dX11_book_131 ?_
            have q_144 := (fq_at hFI_132 hb_1L hb_1k (by decide) (by decide) (fq_at hFI_123 hb_1L hb_1k (by decide) (by decide) (fq_at hFI_114 hb_1L hb_1k (by decide) (by decide) (fq_at hFI_104 hb_1L hb_1k (by decide) (by decide) (fq_at hFI_95 hb_1L hb_1k (by decide) (by decide) hx_90)))))
            have q_145 := (fq_at hFI_132 hb_1L hb_1k (by decide) (by decide) (fq_at hFI_123 hb_1L hb_1k (by decide) (by decide) (fq_at hFI_114 hb_1L hb_1k (by decide) (by decide) (fq_at hFI_104 hb_1L hb_1k (by decide) (by decide) (fq_at hFI_95 hb_1L hb_1k (by decide) (by decide) (kp_s hI_84))))))
            exact g_zret (ty := .int) (r := x_143) B K rfl (rfl) ⟨hUI_132, hF_135, hG_136, rg_all _, (by rw [rr_s hb_1, q_144]; simp only [fBookF, ebqx_1, dbqx_1, hs_137, hs_11, etqx_0, dtqx_0, hs_138, hs_17, eyqx_6, dyqx_6, hs_139, hs_19, hx_2, h_20, (eq_true h_72), c_80, hx_90, f_91, (eq_true h_92), (eq_true h_112), hx_140, h_141, hx_143, if_true, if_false, bqM_pnm, bqM_par, bqM_dnm, bqM_persons, bqM_dishes, bqM_law, bqM_dogs, TB_.w_pnm, TB_.w_par, TB_.w_dnm, TB_.w_persons, TB_.w_dishes, TB_.w_law, TB_.w_dogs, yqM_bw, yqM_bl, KP_.w_bw, KP_.w_bl, tqM_by_, tqM_wd, tqM_tk, tqM_pl, tqM_vl, tqM_len, tqM_n, tqM_at_, tqM_token, tqM_place, tqM_value, tqM_fault, tqM_fat, TP_.w_by_, TP_.w_wd, TP_.w_tk, TP_.w_pl, TP_.w_vl, TP_.w_len, TP_.w_n, TP_.w_at_, TP_.w_token, TP_.w_place, TP_.w_value, TP_.w_fault, TP_.w_fat]), (fun t ht => by rw [hb_1] at ht; cases ht; exact Or.inl ⟨Or.inr (rg_1k r_73 rc_1), q_145⟩)⟩ dX11_book_134
          · skip
            have r_146 := (⟨(eq_rg (h_141) rc_0).1, (eq_rg (h_141) rc_0).2⟩ : Rg 0 0 x_140)
            refine g_iconst C (v := (-1)) dX11_book_123 (by decide) ?_
            refine g_goto C (tgt := 134) dX11_book_124 (by decide) ?_
            have q_147 := (fq_at hFI_132 hb_1L hb_1k (by decide) (by decide) (fq_at hFI_123 hb_1L hb_1k (by decide) (by decide) (fq_at hFI_114 hb_1L hb_1k (by decide) (by decide) (fq_at hFI_104 hb_1L hb_1k (by decide) (by decide) (fq_at hFI_95 hb_1L hb_1k (by decide) (by decide) hx_90)))))
            have q_148 := (fq_at hFI_132 hb_1L hb_1k (by decide) (by decide) (fq_at hFI_123 hb_1L hb_1k (by decide) (by decide) (fq_at hFI_114 hb_1L hb_1k (by decide) (by decide) (fq_at hFI_104 hb_1L hb_1k (by decide) (by decide) (fq_at hFI_95 hb_1L hb_1k (by decide) (by decide) (kp_s hI_84))))))
            exact g_zret (ty := .int) (r := (-1)) B K rfl (rfl) ⟨hUI_132, hF_135, hG_136, rg_all _, (by rw [rr_s hb_1, q_147]; simp only [fBookF, ebqx_1, dbqx_1, hs_137, hs_11, etqx_0, dtqx_0, hs_138, hs_17, eyqx_6, dyqx_6, hs_139, hs_19, hx_2, h_20, (eq_true h_72), c_80, hx_90, f_91, (eq_true h_92), (eq_true h_112), hx_140, (eq_true h_141), if_true, if_false, bqM_pnm, bqM_par, bqM_dnm, bqM_persons, bqM_dishes, bqM_law, bqM_dogs, TB_.w_pnm, TB_.w_par, TB_.w_dnm, TB_.w_persons, TB_.w_dishes, TB_.w_law, TB_.w_dogs, yqM_bw, yqM_bl, KP_.w_bw, KP_.w_bl, tqM_by_, tqM_wd, tqM_tk, tqM_pl, tqM_vl, tqM_len, tqM_n, tqM_at_, tqM_token, tqM_place, tqM_value, tqM_fault, tqM_fat, TP_.w_by_, TP_.w_wd, TP_.w_tk, TP_.w_pl, TP_.w_vl, TP_.w_len, TP_.w_n, TP_.w_at_, TP_.w_token, TP_.w_place, TP_.w_value, TP_.w_fault, TP_.w_fat]), (fun t ht => by rw [hb_1] at ht; cases ht; exact Or.inl ⟨Or.inr (rg_1k r_73 rc_1), q_148⟩)⟩ dX11_book_134
      · skip
        have n_149 : ¬ x_90 = 0 := h_92
        refine g_bipush C (v := (-2)) dX11_book_46 (by decide) ?_
        refine g_aload_n C 0 dX11_book_48 rfl rfl ?_
        refine g_getR C K hLx hkx f_11_10 hb_1 dX11_book_49 ?_
        obtain ⟨x_150, hx_150, rx_150⟩ := ex_get (I := I_84) (a := b_1) (j := 12) (lo := (-2147483648)) (hi := 2147483647) hU_85.1 hb_1L (ro_o hb_1k (by decide)) rfl
        have f_151 : s_81.fat = x_150 := (congrArg TP_.fat hs_88).symm.trans hx_150
        refine g_getI C K hb_1L hb_1k f_11_116 (v := x_150) hx_150 dX11_book_52 ?_
        obtain ⟨x_152, hx_152, rx_152⟩ := ex_any (z0 := (-2) - x_150)
        refine g_isub C (v := x_152) dX11_book_55 hx_152 ?_
        exact g_zret (ty := .int) (r := x_152) B K rfl (rfl) ⟨hU_85, hF_86, hG_79, rx_152, (by rw [rr_s hb_1, hx_90]; simp only [fBookF, ebqx_1, dbqx_1, hs_87, hs_11, etqx_0, dtqx_0, hs_88, hs_17, eyqx_6, dyqx_6, hs_89, hs_19, hx_2, h_20, (eq_true h_72), c_80, hx_90, f_91, h_92, hx_150, f_151, hx_152, if_true, if_false, bqM_pnm, bqM_par, bqM_dnm, bqM_persons, bqM_dishes, bqM_law, bqM_dogs, TB_.w_pnm, TB_.w_par, TB_.w_dnm, TB_.w_persons, TB_.w_dishes, TB_.w_law, TB_.w_dogs, yqM_bw, yqM_bl, KP_.w_bw, KP_.w_bl, tqM_by_, tqM_wd, tqM_tk, tqM_pl, tqM_vl, tqM_len, tqM_n, tqM_at_, tqM_token, tqM_place, tqM_value, tqM_fault, tqM_fat, TP_.w_by_, TP_.w_wd, TP_.w_tk, TP_.w_pl, TP_.w_vl, TP_.w_len, TP_.w_n, TP_.w_at_, TP_.w_token, TP_.w_place, TP_.w_value, TP_.w_fault, TP_.w_fat]), (fun t ht => by rw [hb_1] at ht; cases ht; exact Or.inl ⟨Or.inr (rg_1k r_73 rc_1), (kp_s hI_84)⟩)⟩ dX11_book_56
    · skip
      have n_153 : ¬ a0 = 1 := h_72
      refine g_sipush C (v := (-1000)) dX11_book_9 (by decide) ?_
      obtain ⟨x_154, hx_154, rx_154⟩ := ex_get (I := I) (a := b_1) (j := 11) (lo := (-2147483648)) (hi := 2147483647) hU.1 hb_1L (ro_o hb_1k (by decide)) rfl
      have f_155 : s_17.fault = x_154 := (congrArg TP_.fault hs_17).symm.trans hx_154
      exact g_zret (ty := .int) (r := (-1000)) B K rfl (rfl) ⟨hU, hF, hG, rg_all _, (by rw [rr_s hb_1, hx_154]; simp only [fBookF, ebqx_1, dbqx_1, hs_11, etqx_0, dtqx_0, hs_17, eyqx_6, dyqx_6, hs_19, hx_2, h_20, h_72, hx_154, f_155, if_true, if_false, bqM_pnm, bqM_par, bqM_dnm, bqM_persons, bqM_dishes, bqM_law, bqM_dogs, TB_.w_pnm, TB_.w_par, TB_.w_dnm, TB_.w_persons, TB_.w_dishes, TB_.w_law, TB_.w_dogs, yqM_bw, yqM_bl, KP_.w_bw, KP_.w_bl, tqM_by_, tqM_wd, tqM_tk, tqM_pl, tqM_vl, tqM_len, tqM_n, tqM_at_, tqM_token, tqM_place, tqM_value, tqM_fault, tqM_fat, TP_.w_by_, TP_.w_wd, TP_.w_tk, TP_.w_pl, TP_.w_vl, TP_.w_len, TP_.w_n, TP_.w_at_, TP_.w_token, TP_.w_place, TP_.w_value, TP_.w_fault, TP_.w_fat]), (fun t ht => by rw [hb_1] at ht; cases ht; exact Or.inr ⟨n_71, n_153, rfl⟩)⟩ dX11_book_12
