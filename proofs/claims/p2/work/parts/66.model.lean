theorem dX12_doEat_0 : decode cX12_doEat 0 = .ok (.aload_n 0, 1) := by decide +kernel
theorem dX12_doEat_1 : decode cX12_doEat 1 = .ok (.getfield 13, 3) := by decide +kernel
theorem dX12_doEat_4 : decode cX12_doEat 4 = .ok (.bipush 105, 2) := by decide +kernel
theorem dX12_doEat_6 : decode cX12_doEat 6 = .ok (.bipush 6, 2) := by decide +kernel
theorem dX12_doEat_8 : decode cX12_doEat 8 = .ok (.iload_n 1, 1) := by decide +kernel
theorem dX12_doEat_9 : decode cX12_doEat 9 = .ok (.imul, 1) := by decide +kernel
theorem dX12_doEat_10 : decode cX12_doEat 10 = .ok (.iadd, 1) := by decide +kernel
theorem dX12_doEat_11 : decode cX12_doEat 11 = .ok (.iload_n 2, 1) := by decide +kernel
theorem dX12_doEat_12 : decode cX12_doEat 12 = .ok (.iadd, 1) := by decide +kernel
theorem dX12_doEat_13 : decode cX12_doEat 13 = .ok (.dup2, 1) := by decide +kernel
theorem dX12_doEat_14 : decode cX12_doEat 14 = .ok (.iaload, 1) := by decide +kernel
theorem dX12_doEat_15 : decode cX12_doEat 15 = .ok (.iload_n 3, 1) := by decide +kernel
theorem dX12_doEat_16 : decode cX12_doEat 16 = .ok (.isub, 1) := by decide +kernel
theorem dX12_doEat_17 : decode cX12_doEat 17 = .ok (.iastore, 1) := by decide +kernel
theorem dX12_doEat_18 : decode cX12_doEat 18 = .ok (.aload_n 0, 1) := by decide +kernel
theorem dX12_doEat_19 : decode cX12_doEat 19 = .ok (.getfield 13, 3) := by decide +kernel
theorem dX12_doEat_22 : decode cX12_doEat 22 = .ok (.bipush 84, 2) := by decide +kernel
theorem dX12_doEat_24 : decode cX12_doEat 24 = .ok (.iload_n 1, 1) := by decide +kernel
theorem dX12_doEat_25 : decode cX12_doEat 25 = .ok (.iadd, 1) := by decide +kernel
theorem dX12_doEat_26 : decode cX12_doEat 26 = .ok (.dup2, 1) := by decide +kernel
theorem dX12_doEat_27 : decode cX12_doEat 27 = .ok (.iaload, 1) := by decide +kernel
theorem dX12_doEat_28 : decode cX12_doEat 28 = .ok (.iload_n 3, 1) := by decide +kernel
theorem dX12_doEat_29 : decode cX12_doEat 29 = .ok (.iadd, 1) := by decide +kernel
theorem dX12_doEat_30 : decode cX12_doEat 30 = .ok (.iastore, 1) := by decide +kernel
theorem dX12_doEat_31 : decode cX12_doEat 31 = .ok (.aload_n 0, 1) := by decide +kernel
theorem dX12_doEat_32 : decode cX12_doEat 32 = .ok (.getfield 13, 3) := by decide +kernel
theorem dX12_doEat_35 : decode cX12_doEat 35 = .ok (.bipush 91, 2) := by decide +kernel
theorem dX12_doEat_37 : decode cX12_doEat 37 = .ok (.iload_n 1, 1) := by decide +kernel
theorem dX12_doEat_38 : decode cX12_doEat 38 = .ok (.iadd, 1) := by decide +kernel
theorem dX12_doEat_39 : decode cX12_doEat 39 = .ok (.dup2, 1) := by decide +kernel
theorem dX12_doEat_40 : decode cX12_doEat 40 = .ok (.iaload, 1) := by decide +kernel
theorem dX12_doEat_41 : decode cX12_doEat 41 = .ok (.iload_n 3, 1) := by decide +kernel
theorem dX12_doEat_42 : decode cX12_doEat 42 = .ok (.iadd, 1) := by decide +kernel
theorem dX12_doEat_43 : decode cX12_doEat 43 = .ok (.iastore, 1) := by decide +kernel
theorem dX12_doEat_44 : decode cX12_doEat 44 = .ok (.return_, 1) := by decide +kernel
theorem dX12_eatsAll_0 : decode cX12_eatsAll 0 = .ok (.iconst 0, 1) := by decide +kernel
theorem dX12_eatsAll_1 : decode cX12_eatsAll 1 = .ok (.istore_n 2, 1) := by decide +kernel
theorem dX12_eatsAll_2 : decode cX12_eatsAll 2 = .ok (.iload_n 2, 1) := by decide +kernel
theorem dX12_eatsAll_3 : decode cX12_eatsAll 3 = .ok (.bipush 6, 2) := by decide +kernel
theorem dX12_eatsAll_5 : decode cX12_eatsAll 5 = .ok (.if_icmp .ge 29, 3) := by decide +kernel
theorem dX12_eatsAll_8 : decode cX12_eatsAll 8 = .ok (.aload_n 0, 1) := by decide +kernel
theorem dX12_eatsAll_9 : decode cX12_eatsAll 9 = .ok (.iload_n 1, 1) := by decide +kernel
theorem dX12_eatsAll_10 : decode cX12_eatsAll 10 = .ok (.iload_n 2, 1) := by decide +kernel
theorem dX12_eatsAll_11 : decode cX12_eatsAll 11 = .ok (.aload_n 0, 1) := by decide +kernel
theorem dX12_eatsAll_12 : decode cX12_eatsAll 12 = .ok (.iload_n 1, 1) := by decide +kernel
theorem dX12_eatsAll_13 : decode cX12_eatsAll 13 = .ok (.iload_n 2, 1) := by decide +kernel
theorem dX12_eatsAll_14 : decode cX12_eatsAll 14 = .ok (.invokevirtual 234, 3) := by decide +kernel
theorem dX12_eatsAll_17 : decode cX12_eatsAll 17 = .ok (.aload_n 0, 1) := by decide +kernel
theorem dX12_eatsAll_18 : decode cX12_eatsAll 18 = .ok (.iload_n 1, 1) := by decide +kernel
theorem dX12_eatsAll_19 : decode cX12_eatsAll 19 = .ok (.invokevirtual 268, 3) := by decide +kernel
theorem dX12_eatsAll_22 : decode cX12_eatsAll 22 = .ok (.invokestatic 265, 3) := by decide +kernel
theorem dX12_eatsAll_25 : decode cX12_eatsAll 25 = .ok (.invokevirtual 271, 3) := by decide +kernel
theorem dX12_eatsAll_28 : decode cX12_eatsAll 28 = .ok (.iinc 2 1, 3) := by decide +kernel
theorem dX12_eatsAll_31 : decode cX12_eatsAll 31 = .ok (.goto (-29), 3) := by decide +kernel
theorem dX12_eatsAll_34 : decode cX12_eatsAll 34 = .ok (.return_, 1) := by decide +kernel
theorem dX12_least_0 : decode cX12_least 0 = .ok (.iload_n 0, 1) := by decide +kernel
theorem dX12_least_1 : decode cX12_least 1 = .ok (.iload_n 1, 1) := by decide +kernel
theorem dX12_least_2 : decode cX12_least 2 = .ok (.if_icmp .ge 7, 3) := by decide +kernel
theorem dX12_least_5 : decode cX12_least 5 = .ok (.iload_n 0, 1) := by decide +kernel
theorem dX12_least_6 : decode cX12_least 6 = .ok (.goto 4, 3) := by decide +kernel
theorem dX12_least_9 : decode cX12_least 9 = .ok (.iload_n 1, 1) := by decide +kernel
theorem dX12_least_10 : decode cX12_least 10 = .ok (.ireturn, 1) := by decide +kernel
theorem dX12_wantsYet_0 : decode cX12_wantsYet 0 = .ok (.aload_n 0, 1) := by decide +kernel
theorem dX12_wantsYet_1 : decode cX12_wantsYet 1 = .ok (.getfield 13, 3) := by decide +kernel
theorem dX12_wantsYet_4 : decode cX12_wantsYet 4 = .ok (.iconst 4, 1) := by decide +kernel
theorem dX12_wantsYet_5 : decode cX12_wantsYet 5 = .ok (.iload_n 1, 1) := by decide +kernel
theorem dX12_wantsYet_6 : decode cX12_wantsYet 6 = .ok (.iadd, 1) := by decide +kernel
theorem dX12_wantsYet_7 : decode cX12_wantsYet 7 = .ok (.iaload, 1) := by decide +kernel
theorem dX12_wantsYet_8 : decode cX12_wantsYet 8 = .ok (.aload_n 0, 1) := by decide +kernel
theorem dX12_wantsYet_9 : decode cX12_wantsYet 9 = .ok (.getfield 13, 3) := by decide +kernel
theorem dX12_wantsYet_12 : decode cX12_wantsYet 12 = .ok (.bipush 91, 2) := by decide +kernel
theorem dX12_wantsYet_14 : decode cX12_wantsYet 14 = .ok (.iload_n 1, 1) := by decide +kernel
theorem dX12_wantsYet_15 : decode cX12_wantsYet 15 = .ok (.iadd, 1) := by decide +kernel
theorem dX12_wantsYet_16 : decode cX12_wantsYet 16 = .ok (.iaload, 1) := by decide +kernel
theorem dX12_wantsYet_17 : decode cX12_wantsYet 17 = .ok (.isub, 1) := by decide +kernel
theorem dX12_wantsYet_18 : decode cX12_wantsYet 18 = .ok (.ireturn, 1) := by decide +kernel
theorem dX12_why_0 : decode cX12_why 0 = .ok (.aload_n 0, 1) := by decide +kernel
theorem dX12_why_1 : decode cX12_why 1 = .ok (.iload_n 2, 1) := by decide +kernel
theorem dX12_why_2 : decode cX12_why 2 = .ok (.invokevirtual 244, 3) := by decide +kernel
theorem dX12_why_5 : decode cX12_why 5 = .ok (.ifCond .eq 5, 3) := by decide +kernel
theorem dX12_why_8 : decode cX12_why 8 = .ok (.iconst 1, 1) := by decide +kernel
theorem dX12_why_9 : decode cX12_why 9 = .ok (.ireturn, 1) := by decide +kernel
theorem dX12_why_10 : decode cX12_why 10 = .ok (.iload_n 1, 1) := by decide +kernel
theorem dX12_why_11 : decode cX12_why 11 = .ok (.tableswitch 138 0 4 #[33, 64, 84, 98, 118], 33) := by decide +kernel
theorem dX12_why_44 : decode cX12_why 44 = .ok (.aload_n 0, 1) := by decide +kernel
theorem dX12_why_45 : decode cX12_why 45 = .ok (.iload_n 2, 1) := by decide +kernel
theorem dX12_why_46 : decode cX12_why 46 = .ok (.iload_n 3, 1) := by decide +kernel
theorem dX12_why_47 : decode cX12_why 47 = .ok (.invokevirtual 234, 3) := by decide +kernel
theorem dX12_why_50 : decode cX12_why 50 = .ok (.iload 4, 2) := by decide +kernel
theorem dX12_why_52 : decode cX12_why 52 = .ok (.if_icmp .ge 7, 3) := by decide +kernel
theorem dX12_why_55 : decode cX12_why 55 = .ok (.iconst 2, 1) := by decide +kernel
theorem dX12_why_56 : decode cX12_why 56 = .ok (.goto 18, 3) := by decide +kernel
theorem dX12_why_59 : decode cX12_why 59 = .ok (.iload 4, 2) := by decide +kernel
theorem dX12_why_61 : decode cX12_why 61 = .ok (.aload_n 0, 1) := by decide +kernel
theorem dX12_why_62 : decode cX12_why 62 = .ok (.iload_n 2, 1) := by decide +kernel
theorem dX12_why_63 : decode cX12_why 63 = .ok (.invokevirtual 268, 3) := by decide +kernel
theorem dX12_why_66 : decode cX12_why 66 = .ok (.if_icmp .le 7, 3) := by decide +kernel
theorem dX12_why_69 : decode cX12_why 69 = .ok (.iconst 3, 1) := by decide +kernel
theorem dX12_why_70 : decode cX12_why 70 = .ok (.goto 4, 3) := by decide +kernel
theorem dX12_why_73 : decode cX12_why 73 = .ok (.iconst 0, 1) := by decide +kernel
theorem dX12_why_74 : decode cX12_why 74 = .ok (.ireturn, 1) := by decide +kernel
theorem dX12_why_75 : decode cX12_why 75 = .ok (.aload_n 0, 1) := by decide +kernel
theorem dX12_why_76 : decode cX12_why 76 = .ok (.getfield 13, 3) := by decide +kernel
theorem dX12_why_79 : decode cX12_why 79 = .ok (.bipush 78, 2) := by decide +kernel
theorem dX12_why_81 : decode cX12_why 81 = .ok (.iload_n 3, 1) := by decide +kernel
theorem dX12_why_82 : decode cX12_why 82 = .ok (.iadd, 1) := by decide +kernel
theorem dX12_why_83 : decode cX12_why 83 = .ok (.iaload, 1) := by decide +kernel
theorem dX12_why_84 : decode cX12_why 84 = .ok (.iload 4, 2) := by decide +kernel
theorem dX12_why_86 : decode cX12_why 86 = .ok (.if_icmp .ge 7, 3) := by decide +kernel
theorem dX12_why_89 : decode cX12_why 89 = .ok (.iconst 2, 1) := by decide +kernel
theorem dX12_why_90 : decode cX12_why 90 = .ok (.goto 4, 3) := by decide +kernel
theorem dX12_why_93 : decode cX12_why 93 = .ok (.iconst 0, 1) := by decide +kernel
theorem dX12_why_94 : decode cX12_why 94 = .ok (.ireturn, 1) := by decide +kernel
theorem dX12_why_95 : decode cX12_why 95 = .ok (.aload_n 0, 1) := by decide +kernel
theorem dX12_why_96 : decode cX12_why 96 = .ok (.iload_n 2, 1) := by decide +kernel
theorem dX12_why_97 : decode cX12_why 97 = .ok (.invokevirtual 247, 3) := by decide +kernel
theorem dX12_why_100 : decode cX12_why 100 = .ok (.ifCond .ne 7, 3) := by decide +kernel
theorem dX12_why_103 : decode cX12_why 103 = .ok (.iconst 2, 1) := by decide +kernel
theorem dX12_why_104 : decode cX12_why 104 = .ok (.goto 4, 3) := by decide +kernel
theorem dX12_why_107 : decode cX12_why 107 = .ok (.iconst 0, 1) := by decide +kernel
theorem dX12_why_108 : decode cX12_why 108 = .ok (.ireturn, 1) := by decide +kernel
theorem dX12_why_109 : decode cX12_why 109 = .ok (.aload_n 0, 1) := by decide +kernel
theorem dX12_why_110 : decode cX12_why 110 = .ok (.getfield 13, 3) := by decide +kernel
theorem dX12_why_113 : decode cX12_why 113 = .ok (.bipush 74, 2) := by decide +kernel
theorem dX12_why_115 : decode cX12_why 115 = .ok (.iaload, 1) := by decide +kernel
theorem dX12_why_116 : decode cX12_why 116 = .ok (.iload_n 2, 1) := by decide +kernel
theorem dX12_why_117 : decode cX12_why 117 = .ok (.invokestatic 231, 3) := by decide +kernel
theorem dX12_why_120 : decode cX12_why 120 = .ok (.ifCond .eq 7, 3) := by decide +kernel
theorem dX12_why_123 : decode cX12_why 123 = .ok (.iconst 2, 1) := by decide +kernel
theorem dX12_why_124 : decode cX12_why 124 = .ok (.goto 4, 3) := by decide +kernel
theorem dX12_why_127 : decode cX12_why 127 = .ok (.iconst 0, 1) := by decide +kernel
theorem dX12_why_128 : decode cX12_why 128 = .ok (.ireturn, 1) := by decide +kernel
theorem dX12_why_129 : decode cX12_why 129 = .ok (.aload_n 0, 1) := by decide +kernel
theorem dX12_why_130 : decode cX12_why 130 = .ok (.getfield 13, 3) := by decide +kernel
theorem dX12_why_133 : decode cX12_why 133 = .ok (.bipush 74, 2) := by decide +kernel
theorem dX12_why_135 : decode cX12_why 135 = .ok (.iaload, 1) := by decide +kernel
theorem dX12_why_136 : decode cX12_why 136 = .ok (.iload_n 2, 1) := by decide +kernel
theorem dX12_why_137 : decode cX12_why 137 = .ok (.invokestatic 231, 3) := by decide +kernel
theorem dX12_why_140 : decode cX12_why 140 = .ok (.ifCond .eq 7, 3) := by decide +kernel
theorem dX12_why_143 : decode cX12_why 143 = .ok (.iconst 0, 1) := by decide +kernel
theorem dX12_why_144 : decode cX12_why 144 = .ok (.goto 4, 3) := by decide +kernel
theorem dX12_why_147 : decode cX12_why 147 = .ok (.iconst 2, 1) := by decide +kernel
theorem dX12_why_148 : decode cX12_why 148 = .ok (.ireturn, 1) := by decide +kernel
theorem dX12_why_149 : decode cX12_why 149 = .ok (.iconst 0, 1) := by decide +kernel
theorem dX12_why_150 : decode cX12_why 150 = .ok (.ireturn, 1) := by decide +kernel
set_option maxRecDepth 100000 in
set_option maxHeartbeats 8000000 in
theorem c_X12_doEat {l : Launch} {D : va_G} {cy : Nat → ClassId} {L : List Nat} {κ ln : Nat → Nat} {R : Nat → Nat → Option Nat} {I : Nat → Nat → Int32} {J : Nat → Nat → Int64} {ow : Nat → Nat × Nat} (W9 : ∀ a ∈ L, Shp L κ ln R ow a) {x : Nat} (hLx : x ∈ L) (hkx : κ x = 12) (a0 : Int32) (a1 : Int32) (a2 : Int32) (ra0 : Rg 0 6 a0) (ra1 : Rg 0 5 a1) (ra2 : Rg 0 60 a2) (hU : Iw L κ R ow I) (he : ∀ a, R x 14 = some a → Ea_ (I a) a0.toNatClampNeg a1.toNatClampNeg a2) : CtV l yX12_doEat cX12_doEat 4 none { frames := 0, cells := 0, slots := 0, locals := 0 } D cy L κ ln R I J [.ref x, .int a0, .int a1, .int a2] (fun I2 J2 => Iw L κ R ow I2 ∧ Fq L κ ow [83400] I I2 ∧ Fq L κ ow [] J J2) := by
  refine CtV.of (by decide +kernel) (Nat.le_of_ble_eq_true rfl) ?_
  intro p e s m below meth c B K
  have C := B.1
  have hF : Fq L κ ow [83400] I I := fq_rf
  have hG : Fq L κ ow [] J J := fq_rf
  obtain ⟨b_1, hb_1, hb_1L, hb_1k, hb_1n, hb_1o⟩ := shp_a (W9 x hLx) hkx 14 14 389 rfl (by decide)
  refine g_lo (is := [0, 1, 2, 3]) (lo2 := [(0, .ref x), (1, .int a0), (2, .int a1), (3, .int a2)]) rfl ?_
  refine g_aload_n C 0 dX12_doEat_0 rfl rfl ?_
  refine g_getR C K hLx hkx f_12_13 hb_1 dX12_doEat_1 ?_
  refine g_bipush C (v := 105) dX12_doEat_4 (by decide) ?_
  refine g_bipush C (v := 6) dX12_doEat_6 (by decide) ?_
  refine g_iload_n C 1 dX12_doEat_8 rfl rfl ?_
  obtain ⟨x_2, hx_2, rx_2, tx_2⟩ := ex_mulT 0 36 rc_6 ra0 (by decide) (by decide) (by decide) (by decide) (by decide)
  refine g_imul C (v := x_2) dX12_doEat_9 hx_2 ?_
  obtain ⟨x_3, hx_3, rx_3, tx_3⟩ := ex_add 105 141 rc_105 rx_2 (by decide) (by decide) (by decide) (by decide)
  refine g_iadd C (v := x_3) dX12_doEat_10 hx_3 ?_
  refine g_iload_n C 2 dX12_doEat_11 rfl rfl ?_
  obtain ⟨x_4, hx_4, rx_4, tx_4⟩ := ex_add 105 146 rx_3 ra1 (by decide) (by decide) (by decide) (by decide)
  refine g_iadd C (v := x_4) dX12_doEat_12 hx_4 ?_
  refine g_dup2 C dX12_doEat_13 rfl rfl ?_
  obtain ⟨x_5, hx_5, rx_5⟩ := ex_getw (I := I) (a := b_1) (j := x_4.toNatClampNeg) (lo := 0) (hi := 379) hU.1 hb_1L (ro_a hb_1k (by decide) hb_1o hkx rfl) (bn_834.trans (zq_105 (ix_k (lo := 105) (hi := 146) rx_4 (by decide) (by decide) (by decide))))
  refine h_iald C K hb_1L hb_1k (v := x_5) (x_4.toNatClampNeg) (rfl) (ix_0 rx_4 (by decide)) (ix_lt rx_4 (by decide) hb_1n (by decide)) hx_5 dX12_doEat_14 ?_
  refine g_iload_n C 3 dX12_doEat_15 rfl rfl ?_
  obtain ⟨x_6, hx_6, rx_6, tx_6⟩ := ex_suble 379 rx_5 ra2 ((ea_le (he _ hb_1) (show x_4.toNatClampNeg = 105 + 6 * a0.toNatClampNeg + a1.toNatClampNeg from by rw [nx_a tx_4 rx_3 ra1 (by decide), nx_a tx_3 rc_105 rx_2 (by decide), nx_m (k := 6) tx_2 ra0 (by decide)]; rfl) hx_5)) (by decide) (by decide)
  refine g_isub C (v := x_6) dX12_doEat_16 hx_6 ?_
  refine h_iast C K hb_1L hb_1k (x_4.toNatClampNeg) (rfl) (ix_0 rx_4 (by decide)) (ix_lt rx_4 (by decide) hb_1n (by decide)) dX12_doEat_17 (fun I_7 hI_7 => ?_)
  have hU_8 := iw_less W9 hU (uw_put hU.1 hI_7 (ro_a hb_1k (by decide) hb_1o hkx rfl) (lo := 0) (hi := 379) (bn_834.trans (zq_105 (ix_k (lo := 105) (hi := 146) rx_4 (by decide) (by decide) (by decide)))) (rx_6)) hLx hkx hb_1 hI_7 (ix_lt (n := 6) (N := 6) ra1 (by decide) rfl (by decide)) (Or.inr ⟨a0.toNatClampNeg, (ix_lt (n := 7) (N := 7) ra0 (by decide) rfl (by decide)), rfl⟩ : cl_ a1.toNatClampNeg (33 + 6 * a0.toNatClampNeg + a1.toNatClampNeg)) (show x_4.toNatClampNeg = 72 + (33 + 6 * a0.toNatClampNeg + a1.toNatClampNeg) from by rw [nx_a tx_4 rx_3 ra1 (by decide), nx_a tx_3 rc_105 rx_2 (by decide), nx_m (k := 6) tx_2 ra0 (by decide)]; show 105 + 6 * _ + _ = _; omega) (by rw [hx_5, tx_6]; have := (ra2).1; omega)
  have hF_9 := fq_puta hF hI_7 (ro_a hb_1k (by decide) hb_1o hkx rfl) (by decide) (by decide)
  refine g_aload_n C 0 dX12_doEat_18 rfl rfl ?_
  refine g_getR C K hLx hkx f_12_13 hb_1 dX12_doEat_19 ?_
  refine g_bipush C (v := 84) dX12_doEat_22 (by decide) ?_
  refine g_iload_n C 1 dX12_doEat_24 rfl rfl ?_
  obtain ⟨x_10, hx_10, rx_10, tx_10⟩ := ex_add 84 90 rc_84 ra0 (by decide) (by decide) (by decide) (by decide)
  refine g_iadd C (v := x_10) dX12_doEat_25 hx_10 ?_
  refine g_dup2 C dX12_doEat_26 rfl rfl ?_
  obtain ⟨x_11, hx_11, rx_11⟩ := ex_any (z0 := I_7 b_1 (x_10.toNatClampNeg))
  refine h_iald C K hb_1L hb_1k (v := x_11) (x_10.toNatClampNeg) (rfl) (ix_0 rx_10 (by decide)) (ix_lt rx_10 (by decide) hb_1n (by decide)) hx_11 dX12_doEat_27 ?_
  refine g_iload_n C 3 dX12_doEat_28 rfl rfl ?_
  obtain ⟨x_12, hx_12, rx_12⟩ := ex_any (z0 := x_11 + a2)
  refine g_iadd C (v := x_12) dX12_doEat_29 hx_12 ?_
  refine h_iast C K hb_1L hb_1k (x_10.toNatClampNeg) (rfl) (ix_0 rx_10 (by decide)) (ix_lt rx_10 (by decide) hb_1n (by decide)) dX12_doEat_30 (fun I_13 hI_13 => ?_)
  have hU_14 := iw_free W9 hU_8 (uw_put hU_8.1 hI_13 (ro_a hb_1k (by decide) hb_1o hkx rfl) (lo := (-2147483648)) (hi := 2147483647) (bn_834.trans (zq_84 (ix_k (lo := 84) (hi := 90) rx_10 (by decide) (by decide) (by decide)))) (rx_12)) hLx hkx hb_1 hI_13 (by have := ix_k (lo := 84) (hi := 90) rx_10 (by decide) (by decide) (by decide); omega)
  have hF_15 := fq_puta hF_9 hI_13 (ro_a hb_1k (by decide) hb_1o hkx rfl) (by decide) (by decide)
  refine g_aload_n C 0 dX12_doEat_31 rfl rfl ?_
  refine g_getR C K hLx hkx f_12_13 hb_1 dX12_doEat_32 ?_
  refine g_bipush C (v := 91) dX12_doEat_35 (by decide) ?_
  refine g_iload_n C 1 dX12_doEat_37 rfl rfl ?_
  obtain ⟨x_16, hx_16, rx_16, tx_16⟩ := ex_add 91 97 rc_91 ra0 (by decide) (by decide) (by decide) (by decide)
  refine g_iadd C (v := x_16) dX12_doEat_38 hx_16 ?_
  refine g_dup2 C dX12_doEat_39 rfl rfl ?_
  obtain ⟨x_17, hx_17, rx_17⟩ := ex_getw (I := I_13) (a := b_1) (j := x_16.toNatClampNeg) (lo := 0) (hi := 20) hU_14.1 hb_1L (ro_a hb_1k (by decide) hb_1o hkx rfl) (bn_834.trans (zq_91 (ix_k (lo := 91) (hi := 97) rx_16 (by decide) (by decide) (by decide))))
  refine h_iald C K hb_1L hb_1k (v := x_17) (x_16.toNatClampNeg) (rfl) (ix_0 rx_16 (by decide)) (ix_lt rx_16 (by decide) hb_1n (by decide)) hx_17 dX12_doEat_40 ?_
  refine g_iload_n C 3 dX12_doEat_41 rfl rfl ?_
  obtain ⟨x_18, hx_18, rx_18, tx_18⟩ := ex_add 0 80 rx_17 ra2 (by decide) (by decide) (by decide) (by decide)
  refine g_iadd C (v := x_18) dX12_doEat_42 hx_18 ?_
  have q_19 := ju_rg (he _ hb_1) hI_7 (show x_4.toNatClampNeg = 105 + 6 * a0.toNatClampNeg + a1.toNatClampNeg from by rw [nx_a tx_4 rx_3 ra1 (by decide), nx_a tx_3 rc_105 rx_2 (by decide), nx_m (k := 6) tx_2 ra0 (by decide)]; rfl) hI_13 (show x_10.toNatClampNeg = 84 + a0.toNatClampNeg from by rw [nx_a tx_10 rc_84 ra0 (by decide)]; rfl) (ix_lt (n := 7) (N := 7) ra0 (by decide) rfl (by decide)) hx_17 (show x_16.toNatClampNeg = 91 + a0.toNatClampNeg from by rw [nx_a tx_16 rc_91 ra0 (by decide)]; rfl) tx_18 (rx_18) hU_14.1 hb_1L (ro_a hb_1k (by decide) hb_1o hkx rfl)
  refine h_iast C K hb_1L hb_1k (x_16.toNatClampNeg) (rfl) (ix_0 rx_16 (by decide)) (ix_lt rx_16 (by decide) hb_1n (by decide)) dX12_doEat_43 (fun I_20 hI_20 => ?_)
  have hU_21 := iw_just W9 hU_14 (uw_put hU_14.1 hI_20 (ro_a hb_1k (by decide) hb_1o hkx rfl) (lo := 0) (hi := 20) (bn_834.trans (zq_91 (ix_k (lo := 91) (hi := 97) rx_16 (by decide) (by decide) (by decide)))) (q_19.1)) hLx hkx hb_1 hI_20 (ix_lt (n := 7) (N := 7) ra0 (by decide) rfl (by decide)) (show x_16.toNatClampNeg = 91 + a0.toNatClampNeg from by rw [nx_a tx_16 rc_91 ra0 (by decide)]; rfl) q_19.2
  have hF_22 := fq_puta hF_15 hI_20 (ro_a hb_1k (by decide) hb_1o hkx rfl) (by decide) (by decide)
  exact g_vret B K rfl ⟨hU_21, hF_22, hG⟩ dX12_doEat_44
set_option maxRecDepth 100000 in
set_option maxHeartbeats 8000000 in
theorem c_X12_least {l : Launch} {D : va_G} {cy : Nat → ClassId} {L : List Nat} {κ ln : Nat → Nat} {R : Nat → Nat → Option Nat} {I : Nat → Nat → Int32} {J : Nat → Nat → Int64} {ow : Nat → Nat × Nat} (W9 : ∀ a ∈ L, Shp L κ ln R ow a) (a0 : Int32) (a1 : Int32) (hU : Iw L κ R ow I) : CtI l yX12_least cX12_least 2 (some .int) { frames := 0, cells := 0, slots := 0, locals := 0 } D cy L κ ln R I J [.int a0, .int a1] (fun r I2 J2 => I = I2 ∧ J = J2 ∧ Rg (-2147483648) 2147483647 r ∧ (r ≤ a0 ∧ r ≤ a1 ∧ (r = a0 ∨ r = a1))) := by
  refine CtI.of (by decide +kernel) (Nat.le_of_ble_eq_true rfl) ?_
  intro p e s m below meth c B K
  have C := B.1
  refine g_lo (is := [0, 1]) (lo2 := [(0, .int a0), (1, .int a1)]) rfl ?_
  refine g_iload_n C 0 dX12_least_0 rfl rfl ?_
  refine g_iload_n C 1 dX12_least_1 rfl rfl ?_
  refine g_icmp_ge C (tgt := 9) dX12_least_2 (by decide) (fun h_1 => ?_) (fun h_1 => ?_)
  · skip
    refine g_iload_n C 1 dX12_least_9 rfl rfl ?_
    exact g_zret (ty := .int) (r := a1) B K rfl (rfl) ⟨rfl, rfl, (rg_all a1), ⟨h_1, Int32.le_refl _, Or.inr rfl⟩⟩ dX12_least_10
  · skip
    have r_2 := lt_l (hi := 2147483646) (nle h_1) (rg_all a0) (rg_all a1) (by decide)
    have r_3 := lt_r (lo := (-2147483647)) (nle h_1) (rg_all a0) (rg_all a1) (by decide)
    refine g_iload_n C 0 dX12_least_5 rfl rfl ?_
    refine g_goto C (tgt := 10) dX12_least_6 (by decide) ?_
    exact g_zret (ty := .int) (r := a0) B K rfl (rfl) ⟨rfl, rfl, rg_all _, ⟨Int32.le_refl _, Int32.le_of_lt (nle h_1), Or.inl rfl⟩⟩ dX12_least_10
set_option maxRecDepth 100000 in
set_option maxHeartbeats 8000000 in
theorem c_X12_wantsYet {l : Launch} {D : va_G} {cy : Nat → ClassId} {L : List Nat} {κ ln : Nat → Nat} {R : Nat → Nat → Option Nat} {I : Nat → Nat → Int32} {J : Nat → Nat → Int64} {ow : Nat → Nat × Nat} (W9 : ∀ a ∈ L, Shp L κ ln R ow a) {x : Nat} (hLx : x ∈ L) (hkx : κ x = 12) (a0 : Int32) (ra0 : Rg 0 6 a0) (hU : Iw L κ R ow I) : CtI l yX12_wantsYet cX12_wantsYet 2 (some .int) { frames := 0, cells := 0, slots := 0, locals := 0 } D cy L κ ln R I J [.ref x, .int a0] (fun r I2 J2 => I = I2 ∧ J = J2 ∧ Rg 0 20 r ∧ (∀ a, R x 14 = some a → r.toInt = (I a (4 + a0.toNatClampNeg)).toInt - (I a (91 + a0.toNatClampNeg)).toInt)) := by
  refine CtI.of (by decide +kernel) (Nat.le_of_ble_eq_true rfl) ?_
  intro p e s m below meth c B K
  have C := B.1
  obtain ⟨b_1, hb_1, hb_1L, hb_1k, hb_1n, hb_1o⟩ := shp_a (W9 x hLx) hkx 14 14 389 rfl (by decide)
  refine g_lo (is := [0, 1]) (lo2 := [(0, .ref x), (1, .int a0)]) rfl ?_
  refine g_aload_n C 0 dX12_wantsYet_0 rfl rfl ?_
  refine g_getR C K hLx hkx f_12_13 hb_1 dX12_wantsYet_1 ?_
  refine g_iconst C (v := 4) dX12_wantsYet_4 (by decide) ?_
  refine g_iload_n C 1 dX12_wantsYet_5 rfl rfl ?_
  obtain ⟨x_2, hx_2, rx_2, tx_2⟩ := ex_add 4 10 rc_4 ra0 (by decide) (by decide) (by decide) (by decide)
  refine g_iadd C (v := x_2) dX12_wantsYet_6 hx_2 ?_
  obtain ⟨x_3, hx_3, rx_3⟩ := ex_getw (I := I) (a := b_1) (j := x_2.toNatClampNeg) (lo := 0) (hi := 20) hU.1 hb_1L (ro_a hb_1k (by decide) hb_1o hkx rfl) (bn_834.trans (zq_4 (ix_k (lo := 4) (hi := 10) rx_2 (by decide) (by decide) (by decide))))
  refine h_iald C K hb_1L hb_1k (v := x_3) (x_2.toNatClampNeg) (rfl) (ix_0 rx_2 (by decide)) (ix_lt rx_2 (by decide) hb_1n (by decide)) hx_3 dX12_wantsYet_7 ?_
  refine g_aload_n C 0 dX12_wantsYet_8 rfl rfl ?_
  refine g_getR C K hLx hkx f_12_13 hb_1 dX12_wantsYet_9 ?_
  refine g_bipush C (v := 91) dX12_wantsYet_12 (by decide) ?_
  refine g_iload_n C 1 dX12_wantsYet_14 rfl rfl ?_
  obtain ⟨x_4, hx_4, rx_4, tx_4⟩ := ex_add 91 97 rc_91 ra0 (by decide) (by decide) (by decide) (by decide)
  refine g_iadd C (v := x_4) dX12_wantsYet_15 hx_4 ?_
  obtain ⟨x_5, hx_5, rx_5⟩ := ex_getw (I := I) (a := b_1) (j := x_4.toNatClampNeg) (lo := 0) (hi := 20) hU.1 hb_1L (ro_a hb_1k (by decide) hb_1o hkx rfl) (bn_834.trans (zq_91 (ix_k (lo := 91) (hi := 97) rx_4 (by decide) (by decide) (by decide))))
  refine h_iald C K hb_1L hb_1k (v := x_5) (x_4.toNatClampNeg) (rfl) (ix_0 rx_4 (by decide)) (ix_lt rx_4 (by decide) hb_1n (by decide)) hx_5 dX12_wantsYet_16 ?_
  obtain ⟨x_6, hx_6, rx_6, tx_6⟩ := ex_suble 20 rx_3 rx_5 ((Int32.le_iff_toInt_le.mpr (by rw [← hx_5, ← hx_3, (show x_4.toNatClampNeg = 91 + a0.toNatClampNeg from by rw [nx_a tx_4 rc_91 ra0 (by decide)]; rfl), (show x_2.toNatClampNeg = 4 + a0.toNatClampNeg from by rw [nx_a tx_2 rc_4 ra0 (by decide)]; rfl)]; exact gj_le W9 hU.2 hLx hkx hb_1 (ix_lt (n := 7) (N := 7) ra0 (by decide) rfl (by decide))))) (by decide) (by decide)
  refine g_isub C (v := x_6) dX12_wantsYet_17 hx_6 ?_
  exact g_zret (ty := .int) (r := x_6) B K rfl (rfl) ⟨rfl, rfl, rx_6, (fun a ha => by rw [hb_1] at ha; cases ha; rw [← (show x_4.toNatClampNeg = 91 + a0.toNatClampNeg from by rw [nx_a tx_4 rc_91 ra0 (by decide)]; rfl), ← (show x_2.toNatClampNeg = 4 + a0.toNatClampNeg from by rw [nx_a tx_2 rc_4 ra0 (by decide)]; rfl), hx_5, hx_3]; exact tx_6)⟩ dX12_wantsYet_18
set_option maxRecDepth 100000 in
set_option maxHeartbeats 8000000 in
theorem c_X12_why {l : Launch} {D : va_G} {cy : Nat → ClassId} {L : List Nat} {κ ln : Nat → Nat} {R : Nat → Nat → Option Nat} {I : Nat → Nat → Int32} {J : Nat → Nat → Int64} {ow : Nat → Nat × Nat} (W9 : ∀ a ∈ L, Shp L κ ln R ow a) {x : Nat} (hLx : x ∈ L) (hkx : κ x = 12) (a0 : Int32) (a1 : Int32) (a2 : Int32) (a3 : Int32) (ra0 : Rg 0 5 a0) (ra1 : Rg 0 6 a1) (ra2 : Rg 0 5 a2) (ra3 : Rg 0 60 a3) (hU : Iw L κ R ow I) : CtI l yX12_why cX12_why 5 (some .int) { frames := 2, cells := 0, slots := 0, locals := 45 } D cy L κ ln R I J [.ref x, .int a0, .int a1, .int a2, .int a3] (fun r I2 J2 => I = I2 ∧ J = J2 ∧ Rg 0 3 r ∧ (r = 0 → (∀ a, R x 14 = some a → (a0 = 0 → Ea_ (I a) a1.toNatClampNeg a2.toNatClampNeg a3) ∧ (a0 = 1 → a3.toInt ≤ (I a (78 + a2.toNatClampNeg)).toInt)))) := by
  refine CtI.of (by decide +kernel) (Nat.le_of_ble_eq_true rfl) ?_
  intro p e s m below meth c B K
  have C := B.1
  obtain ⟨b_1, hb_1, hb_1L, hb_1k, hb_1n, hb_1o⟩ := shp_a (W9 x hLx) hkx 14 14 389 rfl (by decide)
  refine g_lo (is := [0, 1, 2, 3, 4]) (lo2 := [(0, .ref x), (1, .int a0), (2, .int a1), (3, .int a2), (4, .int a3)]) rfl ?_
  refine g_aload_n C 0 dX12_why_0 rfl rfl ?_
  refine g_iload_n C 2 dX12_why_1 rfl rfl ?_
  refine g_callVI C K (c_X12_isDead W9 hLx hkx a1 (ra1) hU) hLx hkx (by decide) rfl v_12_244 rfl ⟨rfl, rfl⟩ ⟨Nat.le_of_ble_eq_true rfl, Nat.le_of_ble_eq_true rfl⟩ (Nat.le_of_ble_eq_true rfl) ⟨Nat.le_of_ble_eq_true rfl, Nat.le_of_ble_eq_true rfl⟩ dX12_why_2 rfl (st := []) (fun x_2 I_3 J_4 h_5 => ?_)
  obtain ⟨rfl, rfl, rx_2⟩ := h_5
  refine g_if_eq C (tgt := 10) dX12_why_5 (by decide) (fun h_6 => ?_) (fun h_6 => ?_)
  · skip
    have r_7 := (⟨(rx_2).1, (eq_rg (h_6) rc_0).2⟩ : Rg 0 0 x_2)
    refine g_iload_n C 1 dX12_why_10 rfl rfl ?_
    by_cases c_8 : a0.toInt = 0
    · skip
      have r_9 := rg_of (a := 0) (b := 0) 0 c_8 (by decide) (by decide)
      refine g_tableIn C (tgt := 44) dX12_why_11 (by omega) (by omega) (off := 33) (by rw [c_8]; rfl) (by decide) ?_
      refine g_aload_n C 0 dX12_why_44 rfl rfl ?_
      refine g_iload_n C 2 dX12_why_45 rfl rfl ?_
      refine g_iload_n C 3 dX12_why_46 rfl rfl ?_
      refine g_callVI C K (c_X12_onPlate W9 hLx hkx a1 a2 (ra1) (ra2) hU) hLx hkx (by decide) rfl v_12_234 rfl ⟨rfl, rfl⟩ ⟨Nat.le_of_ble_eq_true rfl, Nat.le_of_ble_eq_true rfl⟩ (Nat.le_of_ble_eq_true rfl) ⟨Nat.le_of_ble_eq_true rfl, Nat.le_of_ble_eq_true rfl⟩ dX12_why_47 rfl (st := []) (fun x_10 I_11 J_12 h_13 => ?_)
      obtain ⟨rfl, rfl, rx_10, ex_10⟩ := h_13
      refine g_iload C 4 dX12_why_50 rfl ?_
      refine g_icmp_ge C (tgt := 59) dX12_why_52 (by decide) (fun h_14 => ?_) (fun h_14 => ?_)
      · skip
        refine g_iload C 4 dX12_why_59 rfl ?_
        refine g_aload_n C 0 dX12_why_61 rfl rfl ?_
        refine g_iload_n C 2 dX12_why_62 rfl rfl ?_
        refine g_callVI C K (c_X12_wantsYet W9 hLx hkx a1 (ra1) hU) hLx hkx (by decide) rfl v_12_268 rfl ⟨rfl, rfl⟩ ⟨Nat.le_of_ble_eq_true rfl, Nat.le_of_ble_eq_true rfl⟩ (Nat.le_of_ble_eq_true rfl) ⟨Nat.le_of_ble_eq_true rfl, Nat.le_of_ble_eq_true rfl⟩ dX12_why_63 rfl (st := [.int a3]) (fun x_15 I_16 J_17 h_18 => ?_)
        obtain ⟨rfl, rfl, rx_15, ex_15⟩ := h_18
        refine g_icmp_le C (tgt := 73) dX12_why_66 (by decide) (fun h_19 => ?_) (fun h_19 => ?_)
        · skip
          have r_20 := le_l (h_19) ra3 rx_15
          refine g_iconst C (v := 0) dX12_why_73 (by decide) ?_
          exact g_zret (ty := .int) (r := 0) B K rfl (rfl) ⟨rfl, rfl, rg_w rc_0 (by decide) (by decide), (fun _ a ha => ⟨(fun _ => ea_mk (ex_10 a ha) (ex_15 a ha) (h_14) (h_19)), (fun q => absurd q (rg_nek r_9 rc_1 (by decide)))⟩)⟩ dX12_why_74
        · skip
          have r_21 := lt_r (lo := 1) (nle h_19) rx_15 ra3 (by decide)
          refine g_iconst C (v := 3) dX12_why_69 (by decide) ?_
          refine g_goto C (tgt := 74) dX12_why_70 (by decide) ?_
          exact g_zret (ty := .int) (r := 3) B K rfl (rfl) ⟨rfl, rfl, rg_w rc_3 (by decide) (by decide), (fun q => absurd q (by decide))⟩ dX12_why_74
      · skip
        have r_22 := lt_l (hi := 59) (nle h_14) rx_10 ra3 (by decide)
        have r_23 := lt_r (lo := 1) (nle h_14) rx_10 ra3 (by decide)
        refine g_iconst C (v := 2) dX12_why_55 (by decide) ?_
        refine g_goto C (tgt := 74) dX12_why_56 (by decide) ?_
        exact g_zret (ty := .int) (r := 2) B K rfl (rfl) ⟨rfl, rfl, rg_w rc_2 (by decide) (by decide), (fun q => absurd q (by decide))⟩ dX12_why_74
    by_cases c_24 : a0.toInt = 1
    · skip
      have r_25 := rg_of (a := 1) (b := 1) 1 c_24 (by decide) (by decide)
      refine g_tableIn C (tgt := 75) dX12_why_11 (by omega) (by omega) (off := 64) (by rw [c_24]; rfl) (by decide) ?_
      refine g_aload_n C 0 dX12_why_75 rfl rfl ?_
      refine g_getR C K hLx hkx f_12_13 hb_1 dX12_why_76 ?_
      refine g_bipush C (v := 78) dX12_why_79 (by decide) ?_
      refine g_iload_n C 3 dX12_why_81 rfl rfl ?_
      obtain ⟨x_26, hx_26, rx_26, tx_26⟩ := ex_add 78 83 rc_78 ra2 (by decide) (by decide) (by decide) (by decide)
      refine g_iadd C (v := x_26) dX12_why_82 hx_26 ?_
      obtain ⟨x_27, hx_27, rx_27⟩ := ex_getw (I := I) (a := b_1) (j := x_26.toNatClampNeg) (lo := 0) (hi := 379) hU.1 hb_1L (ro_a hb_1k (by decide) hb_1o hkx rfl) (bn_834.trans (zq_78 (ix_k (lo := 78) (hi := 83) rx_26 (by decide) (by decide) (by decide))))
      refine h_iald C K hb_1L hb_1k (v := x_27) (x_26.toNatClampNeg) (rfl) (ix_0 rx_26 (by decide)) (ix_lt rx_26 (by decide) hb_1n (by decide)) hx_27 dX12_why_83 ?_
      refine g_iload C 4 dX12_why_84 rfl ?_
      refine g_icmp_ge C (tgt := 93) dX12_why_86 (by decide) (fun h_28 => ?_) (fun h_28 => ?_)
      · skip
        refine g_iconst C (v := 0) dX12_why_93 (by decide) ?_
        exact g_zret (ty := .int) (r := 0) B K rfl (rfl) ⟨rfl, rfl, rg_w rc_0 (by decide) (by decide), (fun _ a ha => ⟨(fun q => absurd q (rg_nek r_25 rc_0 (by decide))), (fun _ => by rw [hb_1] at ha; cases ha; rw [← (show x_26.toNatClampNeg = 78 + a2.toNatClampNeg from by rw [nx_a tx_26 rc_78 ra2 (by decide)]; rfl), hx_27]; exact Int32.le_iff_toInt_le.mp (h_28))⟩)⟩ dX12_why_94
      · skip
        have r_29 := lt_l (hi := 59) (nle h_28) rx_27 ra3 (by decide)
        have r_30 := lt_r (lo := 1) (nle h_28) rx_27 ra3 (by decide)
        refine g_iconst C (v := 2) dX12_why_89 (by decide) ?_
        refine g_goto C (tgt := 94) dX12_why_90 (by decide) ?_
        exact g_zret (ty := .int) (r := 2) B K rfl (rfl) ⟨rfl, rfl, rg_w rc_2 (by decide) (by decide), (fun q => absurd q (by decide))⟩ dX12_why_94
    by_cases c_31 : a0.toInt = 2
    · skip
      have r_32 := rg_of (a := 2) (b := 2) 2 c_31 (by decide) (by decide)
      refine g_tableIn C (tgt := 95) dX12_why_11 (by omega) (by omega) (off := 84) (by rw [c_31]; rfl) (by decide) ?_
      refine g_aload_n C 0 dX12_why_95 rfl rfl ?_
      refine g_iload_n C 2 dX12_why_96 rfl rfl ?_
      refine g_callVI C K (c_X12_plateOf W9 hLx hkx a1 (ra1) hU) hLx hkx (by decide) rfl v_12_247 rfl ⟨rfl, rfl⟩ ⟨Nat.le_of_ble_eq_true rfl, Nat.le_of_ble_eq_true rfl⟩ (Nat.le_of_ble_eq_true rfl) ⟨Nat.le_of_ble_eq_true rfl, Nat.le_of_ble_eq_true rfl⟩ dX12_why_97 rfl (st := []) (fun x_33 I_34 J_35 h_36 => ?_)
      obtain ⟨rfl, rfl, rx_33⟩ := h_36
      refine g_if_ne C (tgt := 107) dX12_why_100 (by decide) (fun h_37 => ?_) (fun h_37 => ?_)
      · skip
        have n_38 : ¬ x_33 = 0 := h_37
        refine g_iconst C (v := 0) dX12_why_107 (by decide) ?_
        exact g_zret (ty := .int) (r := 0) B K rfl (rfl) ⟨rfl, rfl, rg_w rc_0 (by decide) (by decide), (fun _ a ha => ⟨(fun q => absurd q (rg_nek r_32 rc_0 (by decide))), (fun q => absurd q (rg_nek r_32 rc_1 (by decide)))⟩)⟩ dX12_why_108
      · skip
        have r_39 := (⟨(eq_rg (h_37) rc_0).1, (eq_rg (h_37) rc_0).2⟩ : Rg 0 0 x_33)
        refine g_iconst C (v := 2) dX12_why_103 (by decide) ?_
        refine g_goto C (tgt := 108) dX12_why_104 (by decide) ?_
        exact g_zret (ty := .int) (r := 2) B K rfl (rfl) ⟨rfl, rfl, rg_w rc_2 (by decide) (by decide), (fun q => absurd q (by decide))⟩ dX12_why_108
    by_cases c_40 : a0.toInt = 3
    · skip
      have r_41 := rg_of (a := 3) (b := 3) 3 c_40 (by decide) (by decide)
      refine g_tableIn C (tgt := 109) dX12_why_11 (by omega) (by omega) (off := 98) (by rw [c_40]; rfl) (by decide) ?_
      refine g_aload_n C 0 dX12_why_109 rfl rfl ?_
      refine g_getR C K hLx hkx f_12_13 hb_1 dX12_why_110 ?_
      refine g_bipush C (v := 74) dX12_why_113 (by decide) ?_
      obtain ⟨x_42, hx_42, rx_42⟩ := ex_any (z0 := I b_1 (74))
      refine h_iald C K hb_1L hb_1k (v := x_42) (74) (by decide) (by decide) (by rw [hb_1n]; decide) hx_42 dX12_why_115 ?_
      refine g_iload_n C 2 dX12_why_116 rfl rfl ?_
      refine g_callSI C K (c_X12_has W9 x_42 a1  hU) s_12_231 rfl ⟨rfl, rfl⟩ ⟨Nat.le_of_ble_eq_true rfl, Nat.le_of_ble_eq_true rfl⟩ (Nat.le_of_ble_eq_true rfl) ⟨Nat.le_of_ble_eq_true rfl, Nat.le_of_ble_eq_true rfl⟩ dX12_why_117 rfl (st := []) (fun x_43 I_44 J_45 h_46 => ?_)
      obtain ⟨rfl, rfl, rx_43⟩ := h_46
      refine g_if_eq C (tgt := 127) dX12_why_120 (by decide) (fun h_47 => ?_) (fun h_47 => ?_)
      · skip
        have r_48 := (⟨(rx_43).1, (eq_rg (h_47) rc_0).2⟩ : Rg 0 0 x_43)
        refine g_iconst C (v := 0) dX12_why_127 (by decide) ?_
        exact g_zret (ty := .int) (r := 0) B K rfl (rfl) ⟨rfl, rfl, rg_w rc_0 (by decide) (by decide), (fun _ a ha => ⟨(fun q => absurd q (rg_nek r_41 rc_0 (by decide))), (fun q => absurd q (rg_nek r_41 rc_1 (by decide)))⟩)⟩ dX12_why_128
      · skip
        have n_49 : ¬ x_43 = 0 := h_47
        have r_50 := ne_lo (lo := 1) n_49 rx_43 rc_0 rfl (by decide)
        refine g_iconst C (v := 2) dX12_why_123 (by decide) ?_
        refine g_goto C (tgt := 128) dX12_why_124 (by decide) ?_
        exact g_zret (ty := .int) (r := 2) B K rfl (rfl) ⟨rfl, rfl, rg_w rc_2 (by decide) (by decide), (fun q => absurd q (by decide))⟩ dX12_why_128
    by_cases c_51 : a0.toInt = 4
    · skip
      have r_52 := rg_of (a := 4) (b := 4) 4 c_51 (by decide) (by decide)
      refine g_tableIn C (tgt := 129) dX12_why_11 (by omega) (by omega) (off := 118) (by rw [c_51]; rfl) (by decide) ?_
      refine g_aload_n C 0 dX12_why_129 rfl rfl ?_
      refine g_getR C K hLx hkx f_12_13 hb_1 dX12_why_130 ?_
      refine g_bipush C (v := 74) dX12_why_133 (by decide) ?_
      obtain ⟨x_53, hx_53, rx_53⟩ := ex_any (z0 := I b_1 (74))
      refine h_iald C K hb_1L hb_1k (v := x_53) (74) (by decide) (by decide) (by rw [hb_1n]; decide) hx_53 dX12_why_135 ?_
      refine g_iload_n C 2 dX12_why_136 rfl rfl ?_
      refine g_callSI C K (c_X12_has W9 x_53 a1  hU) s_12_231 rfl ⟨rfl, rfl⟩ ⟨Nat.le_of_ble_eq_true rfl, Nat.le_of_ble_eq_true rfl⟩ (Nat.le_of_ble_eq_true rfl) ⟨Nat.le_of_ble_eq_true rfl, Nat.le_of_ble_eq_true rfl⟩ dX12_why_137 rfl (st := []) (fun x_54 I_55 J_56 h_57 => ?_)
      obtain ⟨rfl, rfl, rx_54⟩ := h_57
      refine g_if_eq C (tgt := 147) dX12_why_140 (by decide) (fun h_58 => ?_) (fun h_58 => ?_)
      · skip
        have r_59 := (⟨(rx_54).1, (eq_rg (h_58) rc_0).2⟩ : Rg 0 0 x_54)
        refine g_iconst C (v := 2) dX12_why_147 (by decide) ?_
        exact g_zret (ty := .int) (r := 2) B K rfl (rfl) ⟨rfl, rfl, rg_w rc_2 (by decide) (by decide), (fun q => absurd q (by decide))⟩ dX12_why_148
      · skip
        have n_60 : ¬ x_54 = 0 := h_58
        have r_61 := ne_lo (lo := 1) n_60 rx_54 rc_0 rfl (by decide)
        refine g_iconst C (v := 0) dX12_why_143 (by decide) ?_
        refine g_goto C (tgt := 148) dX12_why_144 (by decide) ?_
        exact g_zret (ty := .int) (r := 0) B K rfl (rfl) ⟨rfl, rfl, rg_w rc_0 (by decide) (by decide), (fun _ a ha => ⟨(fun q => absurd q (rg_nek r_52 rc_0 (by decide))), (fun q => absurd q (rg_nek r_52 rc_1 (by decide)))⟩)⟩ dX12_why_148
    have n_63 : ¬ a0 = 0 := (fun q => c_8 (by rw [q]; decide))
    have r_64 := ne_lo (lo := 1) n_63 ra0 rc_0 rfl (by decide)
    have n_65 : ¬ a0 = 1 := (fun q => c_24 (by rw [q]; decide))
    have r_66 := ne_lo (lo := 2) n_65 r_64 rc_1 rfl (by decide)
    have n_67 : ¬ a0 = 2 := (fun q => c_31 (by rw [q]; decide))
    have r_68 := ne_lo (lo := 3) n_67 r_66 rc_2 rfl (by decide)
    have n_69 : ¬ a0 = 3 := (fun q => c_40 (by rw [q]; decide))
    have r_70 := ne_lo (lo := 4) n_69 r_68 rc_3 rfl (by decide)
    have n_71 : ¬ a0 = 4 := (fun q => c_51 (by rw [q]; decide))
    have r_72 := ne_lo (lo := 5) n_71 r_70 rc_4 rfl (by decide)
    obtain ⟨q_621, q_622⟩ := r_72
    refine g_tableOut C (tgt := 149) dX12_why_11 (by omega) (by decide) ?_
    refine g_iconst C (v := 0) dX12_why_149 (by decide) ?_
    exact g_zret (ty := .int) (r := 0) B K rfl (rfl) ⟨rfl, rfl, rg_w rc_0 (by decide) (by decide), (fun _ a ha => ⟨(fun q => absurd q (rg_nek r_72 rc_0 (by decide))), (fun q => absurd q (rg_nek r_72 rc_1 (by decide)))⟩)⟩ dX12_why_150
  · skip
    have n_73 : ¬ x_2 = 0 := h_6
    have r_74 := ne_lo (lo := 1) n_73 rx_2 rc_0 rfl (by decide)
    refine g_iconst C (v := 1) dX12_why_8 (by decide) ?_
    exact g_zret (ty := .int) (r := 1) B K rfl (rfl) ⟨rfl, rfl, rg_w rc_1 (by decide) (by decide), (fun q => absurd q (by decide))⟩ dX12_why_9
set_option maxRecDepth 100000 in
set_option maxHeartbeats 8000000 in
theorem c_X12_eatsAll {l : Launch} {D : va_G} {cy : Nat → ClassId} {L : List Nat} {κ ln : Nat → Nat} {R : Nat → Nat → Option Nat} {I : Nat → Nat → Int32} {J : Nat → Nat → Int64} {ow : Nat → Nat × Nat} (W9 : ∀ a ∈ L, Shp L κ ln R ow a) {x : Nat} (hLx : x ∈ L) (hkx : κ x = 12) (a0 : Int32) (ra0 : Rg 0 6 a0) (hU : Iw L κ R ow I) : CtV l yX12_eatsAll cX12_eatsAll 3 none { frames := 1, cells := 0, slots := 0, locals := 23 } D cy L κ ln R I J [.ref x, .int a0] (fun I2 J2 => Iw L κ R ow I2 ∧ Fq L κ ow [83400] I I2 ∧ Fq L κ ow [] J J2) := by
  refine CtV.of (by decide +kernel) (Nat.le_of_ble_eq_true rfl) ?_
  intro p e s m below meth c B K
  have C := B.1
  have hF : Fq L κ ow [83400] I I := fq_rf
  have hG : Fq L κ ow [] J J := fq_rf
  refine g_lo (is := [0, 1]) (lo2 := [(0, .ref x), (1, .int a0)]) rfl ?_
  have l_2 : ∀ (n_2 : Nat) (I_1 : Nat → Nat → Int32) (J_2 : Nat → Nat → Int64) (hU_3 : Iw L κ R ow I_1) (hF_4 : Fq L κ ow [83400] I I_1) (hG_5 : Fq L κ ow [] J J_2) (v_6 : Int32) (rv_6 : Rg 0 6 v_6) (v_7 : Int32) (rv_7 : Rg 0 6 v_7) (hm_8 : 6 < (v_7 : Int32).toInt + (n_2 : Int)), WG p l e { frames := 1, cells := 0, slots := 0, locals := 23 } s m ([.ref x, .int a0] : List Value).toArray below meth c 3 0 0 (MQ below (Qv_ D cy L κ ln R (fun I2 J2 => Iw L κ R ow I2 ∧ Fq L κ ow [83400] I I2 ∧ Fq L κ ow [] J J2)) ([.ref x, .int a0] : List Value).toArray s 0 0 (Al_ L)) D cy (Al_ L) s.heap L κ ln R I_1 J_2 2 [(0, .ref x), (1, .int v_6), (2, .int v_7)] [] := by
    intro n_2
    induction n_2 with
    | zero =>
      intro I_1 J_2 hU_3 hF_4 hG_5 v_6 rv_6 v_7 rv_7 hm_8
      exact ms_0 rv_7 hm_8
    | succ n_2 ih_2 =>
      intro I_1 J_2 hU_3 hF_4 hG_5 v_6 rv_6 v_7 rv_7 hm_8
      refine g_iload_n C 2 dX12_eatsAll_2 rfl rfl ?_
      refine g_bipush C (v := 6) dX12_eatsAll_3 (by decide) ?_
      refine g_icmp_ge C (tgt := 34) dX12_eatsAll_5 (by decide) (fun h_9 => ?_) (fun h_9 => ?_)
      · skip
        have r_10 := le_r (h_9) rc_6 rv_7
        exact g_vret B K rfl ⟨hU_3, hF_4, hG_5⟩ dX12_eatsAll_34
      · skip
        have r_11 := lt_l (hi := 5) (nle h_9) rv_7 rc_6 (by decide)
        refine g_aload_n C 0 dX12_eatsAll_8 rfl rfl ?_
        refine g_iload_n C 1 dX12_eatsAll_9 rfl rfl ?_
        refine g_iload_n C 2 dX12_eatsAll_10 rfl rfl ?_
        refine g_aload_n C 0 dX12_eatsAll_11 rfl rfl ?_
        refine g_iload_n C 1 dX12_eatsAll_12 rfl rfl ?_
        refine g_iload_n C 2 dX12_eatsAll_13 rfl rfl ?_
        refine g_callVI C K (c_X12_onPlate W9 hLx hkx v_6 v_7 (rv_6) (r_11) hU_3) hLx hkx (by decide) rfl v_12_234 rfl ⟨rfl, rfl⟩ ⟨Nat.le_of_ble_eq_true rfl, Nat.le_of_ble_eq_true rfl⟩ (Nat.le_of_ble_eq_true rfl) ⟨Nat.le_of_ble_eq_true rfl, Nat.le_of_ble_eq_true rfl⟩ dX12_eatsAll_14 rfl (st := [.int v_7, .int v_6, .ref x]) (fun x_12 I_13 J_14 h_15 => ?_)
        obtain ⟨rfl, rfl, rx_12, ex_12⟩ := h_15
        refine g_aload_n C 0 dX12_eatsAll_17 rfl rfl ?_
        refine g_iload_n C 1 dX12_eatsAll_18 rfl rfl ?_
        refine g_callVI C K (c_X12_wantsYet W9 hLx hkx v_6 (rv_6) hU_3) hLx hkx (by decide) rfl v_12_268 rfl ⟨rfl, rfl⟩ ⟨Nat.le_of_ble_eq_true rfl, Nat.le_of_ble_eq_true rfl⟩ (Nat.le_of_ble_eq_true rfl) ⟨Nat.le_of_ble_eq_true rfl, Nat.le_of_ble_eq_true rfl⟩ dX12_eatsAll_19 rfl (st := [.int x_12, .int v_7, .int v_6, .ref x]) (fun x_16 I_17 J_18 h_19 => ?_)
        obtain ⟨rfl, rfl, rx_16, ex_16⟩ := h_19
        refine g_callSI C K (c_X12_least W9 x_12 x_16  hU_3) s_12_265 rfl ⟨rfl, rfl⟩ ⟨Nat.le_of_ble_eq_true rfl, Nat.le_of_ble_eq_true rfl⟩ (Nat.le_of_ble_eq_true rfl) ⟨Nat.le_of_ble_eq_true rfl, Nat.le_of_ble_eq_true rfl⟩ dX12_eatsAll_22 rfl (st := [.int v_7, .int v_6, .ref x]) (fun x_20 I_21 J_22 h_23 => ?_)
        obtain ⟨rfl, rfl, rx_20, ex_20⟩ := h_23
        have r_24 := ls_rg ex_20 rx_12 rx_16 (lo := 0) (hi := 20) (by decide) (by decide)
        refine g_callVV C K (c_X12_doEat W9 hLx hkx v_6 v_7 x_20 (rv_6) (r_11) (rg_w r_24 (by decide) (by decide)) hU_3  (fun a ha => ea_mk (ex_12 a ha) (ex_16 a ha) ex_20.1 ex_20.2.1)) hLx hkx (by decide) rfl v_12_271 rfl ⟨rfl, rfl⟩ ⟨Nat.le_of_ble_eq_true rfl, Nat.le_of_ble_eq_true rfl⟩ (Nat.le_of_ble_eq_true rfl) ⟨Nat.le_of_ble_eq_true rfl, Nat.le_of_ble_eq_true rfl⟩ dX12_eatsAll_25 rfl (st := []) (fun I_26 J_27 h_28 => ?_)
        obtain ⟨hUI_26, hFI_26, hGJ_27⟩ := h_28
        have hF_29 := fq_tr hF_4 hFI_26 (by decide)
        have hG_30 := fq_tr hG_5 hGJ_27 (by decide)
        obtain ⟨x_31, hx_31, rx_31, tx_31⟩ := ex_add (y := 1) 1 6 r_11 rc_1 (by decide) (by decide) (by decide) (by decide)
        refine g_iinc C dX12_eatsAll_28 (k := 2) (v := x_31) rfl hx_31 (by decide) (lo2 := [(2, .int x_31), (0, .ref x), (1, .int v_6)]) rfl ?_
        refine g_goto C (tgt := 2) dX12_eatsAll_31 (by decide) ?_
        refine g_lo (is := [1, 2, 0]) (lo2 := [(0, .ref x), (1, .int v_6), (2, .int x_31)]) rfl ?_
        exact ih_2 I_26 J_27 hUI_26 hF_29 hG_30 v_6 (rv_6) x_31 (rg_w rx_31 (by decide) (by decide)) (ms_1 hm_8 (ti_k tx_31 rc_1) (by decide))
  refine g_iconst C (v := 0) dX12_eatsAll_0 (by decide) ?_
  refine g_istore_n C dX12_eatsAll_1 rfl (by decide) (lo2 := [(2, .int 0), (0, .ref x), (1, .int a0)]) rfl ?_
  refine g_lo (is := [1, 2, 0]) (lo2 := [(0, .ref x), (1, .int a0), (2, .int 0)]) rfl ?_
  exact l_2 7 I J hU hF hG a0 (ra0) 0 (rg_w rc_0 (by decide) (by decide)) (ms_s (a := 0) (b := 6) (N := 7) (rg_w rc_0 (by decide) (by decide)) (by decide))
