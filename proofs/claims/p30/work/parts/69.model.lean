theorem dX12_hungriest_0 : decode cX12_hungriest 0 = .ok (.aload_n 0, 1) := by decide +kernel
theorem dX12_hungriest_1 : decode cX12_hungriest 1 = .ok (.iconst 0, 1) := by decide +kernel
theorem dX12_hungriest_2 : decode cX12_hungriest 2 = .ok (.putfield 82, 3) := by decide +kernel
theorem dX12_hungriest_5 : decode cX12_hungriest 5 = .ok (.iconst (-1), 1) := by decide +kernel
theorem dX12_hungriest_6 : decode cX12_hungriest 6 = .ok (.istore_n 1, 1) := by decide +kernel
theorem dX12_hungriest_7 : decode cX12_hungriest 7 = .ok (.iconst 0, 1) := by decide +kernel
theorem dX12_hungriest_8 : decode cX12_hungriest 8 = .ok (.istore_n 2, 1) := by decide +kernel
theorem dX12_hungriest_9 : decode cX12_hungriest 9 = .ok (.iload_n 2, 1) := by decide +kernel
theorem dX12_hungriest_10 : decode cX12_hungriest 10 = .ok (.aload_n 0, 1) := by decide +kernel
theorem dX12_hungriest_11 : decode cX12_hungriest 11 = .ok (.getfield 13, 3) := by decide +kernel
theorem dX12_hungriest_14 : decode cX12_hungriest 14 = .ok (.iconst 0, 1) := by decide +kernel
theorem dX12_hungriest_15 : decode cX12_hungriest 15 = .ok (.iaload, 1) := by decide +kernel
theorem dX12_hungriest_16 : decode cX12_hungriest 16 = .ok (.if_icmp .ge 45, 3) := by decide +kernel
theorem dX12_hungriest_19 : decode cX12_hungriest 19 = .ok (.aload_n 0, 1) := by decide +kernel
theorem dX12_hungriest_20 : decode cX12_hungriest 20 = .ok (.iload_n 2, 1) := by decide +kernel
theorem dX12_hungriest_21 : decode cX12_hungriest 21 = .ok (.invokevirtual 244, 3) := by decide +kernel
theorem dX12_hungriest_24 : decode cX12_hungriest 24 = .ok (.ifCond .ne 31, 3) := by decide +kernel
theorem dX12_hungriest_27 : decode cX12_hungriest 27 = .ok (.iload_n 1, 1) := by decide +kernel
theorem dX12_hungriest_28 : decode cX12_hungriest 28 = .ok (.iconst (-1), 1) := by decide +kernel
theorem dX12_hungriest_29 : decode cX12_hungriest 29 = .ok (.if_icmp .eq 24, 3) := by decide +kernel
theorem dX12_hungriest_32 : decode cX12_hungriest 32 = .ok (.aload_n 0, 1) := by decide +kernel
theorem dX12_hungriest_33 : decode cX12_hungriest 33 = .ok (.getfield 13, 3) := by decide +kernel
theorem dX12_hungriest_36 : decode cX12_hungriest 36 = .ok (.bipush 98, 2) := by decide +kernel
theorem dX12_hungriest_38 : decode cX12_hungriest 38 = .ok (.iload_n 2, 1) := by decide +kernel
theorem dX12_hungriest_39 : decode cX12_hungriest 39 = .ok (.iadd, 1) := by decide +kernel
theorem dX12_hungriest_40 : decode cX12_hungriest 40 = .ok (.iaload, 1) := by decide +kernel
theorem dX12_hungriest_41 : decode cX12_hungriest 41 = .ok (.aload_n 0, 1) := by decide +kernel
theorem dX12_hungriest_42 : decode cX12_hungriest 42 = .ok (.getfield 13, 3) := by decide +kernel
theorem dX12_hungriest_45 : decode cX12_hungriest 45 = .ok (.bipush 98, 2) := by decide +kernel
theorem dX12_hungriest_47 : decode cX12_hungriest 47 = .ok (.iload_n 1, 1) := by decide +kernel
theorem dX12_hungriest_48 : decode cX12_hungriest 48 = .ok (.iadd, 1) := by decide +kernel
theorem dX12_hungriest_49 : decode cX12_hungriest 49 = .ok (.iaload, 1) := by decide +kernel
theorem dX12_hungriest_50 : decode cX12_hungriest 50 = .ok (.if_icmp .le 5, 3) := by decide +kernel
theorem dX12_hungriest_53 : decode cX12_hungriest 53 = .ok (.iload_n 2, 1) := by decide +kernel
theorem dX12_hungriest_54 : decode cX12_hungriest 54 = .ok (.istore_n 1, 1) := by decide +kernel
theorem dX12_hungriest_55 : decode cX12_hungriest 55 = .ok (.iinc 2 1, 3) := by decide +kernel
theorem dX12_hungriest_58 : decode cX12_hungriest 58 = .ok (.goto (-49), 3) := by decide +kernel
theorem dX12_hungriest_61 : decode cX12_hungriest 61 = .ok (.iload_n 1, 1) := by decide +kernel
theorem dX12_hungriest_62 : decode cX12_hungriest 62 = .ok (.ireturn, 1) := by decide +kernel
theorem dX12_kin_0 : decode cX12_kin 0 = .ok (.aload_n 0, 1) := by decide +kernel
theorem dX12_kin_1 : decode cX12_kin 1 = .ok (.iconst 0, 1) := by decide +kernel
theorem dX12_kin_2 : decode cX12_kin 2 = .ok (.putfield 82, 3) := by decide +kernel
theorem dX12_kin_5 : decode cX12_kin 5 = .ok (.aload_n 0, 1) := by decide +kernel
theorem dX12_kin_6 : decode cX12_kin 6 = .ok (.iload_n 1, 1) := by decide +kernel
theorem dX12_kin_7 : decode cX12_kin 7 = .ok (.invokevirtual 238, 3) := by decide +kernel
theorem dX12_kin_10 : decode cX12_kin 10 = .ok (.ifCond .eq 11, 3) := by decide +kernel
theorem dX12_kin_13 : decode cX12_kin 13 = .ok (.aload_n 0, 1) := by decide +kernel
theorem dX12_kin_14 : decode cX12_kin 14 = .ok (.iload_n 2, 1) := by decide +kernel
theorem dX12_kin_15 : decode cX12_kin 15 = .ok (.invokevirtual 238, 3) := by decide +kernel
theorem dX12_kin_18 : decode cX12_kin 18 = .ok (.ifCond .ne 5, 3) := by decide +kernel
theorem dX12_kin_21 : decode cX12_kin 21 = .ok (.iconst (-1), 1) := by decide +kernel
theorem dX12_kin_22 : decode cX12_kin 22 = .ok (.ireturn, 1) := by decide +kernel
theorem dX12_kin_23 : decode cX12_kin 23 = .ok (.iconst 1, 1) := by decide +kernel
theorem dX12_kin_24 : decode cX12_kin 24 = .ok (.iload_n 1, 1) := by decide +kernel
theorem dX12_kin_25 : decode cX12_kin 25 = .ok (.ishl, 1) := by decide +kernel
theorem dX12_kin_26 : decode cX12_kin 26 = .ok (.istore_n 3, 1) := by decide +kernel
theorem dX12_kin_27 : decode cX12_kin 27 = .ok (.iconst 0, 1) := by decide +kernel
theorem dX12_kin_28 : decode cX12_kin 28 = .ok (.istore 4, 2) := by decide +kernel
theorem dX12_kin_30 : decode cX12_kin 30 = .ok (.iload 4, 2) := by decide +kernel
theorem dX12_kin_32 : decode cX12_kin 32 = .ok (.bipush 7, 2) := by decide +kernel
theorem dX12_kin_34 : decode cX12_kin 34 = .ok (.if_icmp .ge 103, 3) := by decide +kernel
theorem dX12_kin_37 : decode cX12_kin 37 = .ok (.iload_n 3, 1) := by decide +kernel
theorem dX12_kin_38 : decode cX12_kin 38 = .ok (.iload_n 2, 1) := by decide +kernel
theorem dX12_kin_39 : decode cX12_kin 39 = .ok (.invokestatic 231, 3) := by decide +kernel
theorem dX12_kin_42 : decode cX12_kin 42 = .ok (.ifCond .eq 6, 3) := by decide +kernel
theorem dX12_kin_45 : decode cX12_kin 45 = .ok (.iload 4, 2) := by decide +kernel
theorem dX12_kin_47 : decode cX12_kin 47 = .ok (.ireturn, 1) := by decide +kernel
theorem dX12_kin_48 : decode cX12_kin 48 = .ok (.iload_n 3, 1) := by decide +kernel
theorem dX12_kin_49 : decode cX12_kin 49 = .ok (.istore 5, 2) := by decide +kernel
theorem dX12_kin_51 : decode cX12_kin 51 = .ok (.iconst 0, 1) := by decide +kernel
theorem dX12_kin_52 : decode cX12_kin 52 = .ok (.istore 6, 2) := by decide +kernel
theorem dX12_kin_54 : decode cX12_kin 54 = .ok (.iload 6, 2) := by decide +kernel
theorem dX12_kin_56 : decode cX12_kin 56 = .ok (.aload_n 0, 1) := by decide +kernel
theorem dX12_kin_57 : decode cX12_kin 57 = .ok (.getfield 13, 3) := by decide +kernel
theorem dX12_kin_60 : decode cX12_kin 60 = .ok (.iconst 0, 1) := by decide +kernel
theorem dX12_kin_61 : decode cX12_kin 61 = .ok (.iaload, 1) := by decide +kernel
theorem dX12_kin_62 : decode cX12_kin 62 = .ok (.if_icmp .ge 66, 3) := by decide +kernel
theorem dX12_kin_65 : decode cX12_kin 65 = .ok (.aload_n 0, 1) := by decide +kernel
theorem dX12_kin_66 : decode cX12_kin 66 = .ok (.getfield 13, 3) := by decide +kernel
theorem dX12_kin_69 : decode cX12_kin 69 = .ok (.bipush 11, 2) := by decide +kernel
theorem dX12_kin_71 : decode cX12_kin 71 = .ok (.iload 6, 2) := by decide +kernel
theorem dX12_kin_73 : decode cX12_kin 73 = .ok (.iadd, 1) := by decide +kernel
theorem dX12_kin_74 : decode cX12_kin 74 = .ok (.iaload, 1) := by decide +kernel
theorem dX12_kin_75 : decode cX12_kin 75 = .ok (.istore 7, 2) := by decide +kernel
theorem dX12_kin_77 : decode cX12_kin 77 = .ok (.iload 7, 2) := by decide +kernel
theorem dX12_kin_79 : decode cX12_kin 79 = .ok (.iconst (-1), 1) := by decide +kernel
theorem dX12_kin_80 : decode cX12_kin 80 = .ok (.if_icmp .ne 6, 3) := by decide +kernel
theorem dX12_kin_83 : decode cX12_kin 83 = .ok (.goto 39, 3) := by decide +kernel
theorem dX12_kin_86 : decode cX12_kin 86 = .ok (.iload_n 3, 1) := by decide +kernel
theorem dX12_kin_87 : decode cX12_kin 87 = .ok (.iload 6, 2) := by decide +kernel
theorem dX12_kin_89 : decode cX12_kin 89 = .ok (.invokestatic 231, 3) := by decide +kernel
theorem dX12_kin_92 : decode cX12_kin 92 = .ok (.ifCond .eq 12, 3) := by decide +kernel
theorem dX12_kin_95 : decode cX12_kin 95 = .ok (.iload 5, 2) := by decide +kernel
theorem dX12_kin_97 : decode cX12_kin 97 = .ok (.iconst 1, 1) := by decide +kernel
theorem dX12_kin_98 : decode cX12_kin 98 = .ok (.iload 7, 2) := by decide +kernel
theorem dX12_kin_100 : decode cX12_kin 100 = .ok (.ishl, 1) := by decide +kernel
theorem dX12_kin_101 : decode cX12_kin 101 = .ok (.ior, 1) := by decide +kernel
theorem dX12_kin_102 : decode cX12_kin 102 = .ok (.istore 5, 2) := by decide +kernel
theorem dX12_kin_104 : decode cX12_kin 104 = .ok (.iload_n 3, 1) := by decide +kernel
theorem dX12_kin_105 : decode cX12_kin 105 = .ok (.iload 7, 2) := by decide +kernel
theorem dX12_kin_107 : decode cX12_kin 107 = .ok (.invokestatic 231, 3) := by decide +kernel
theorem dX12_kin_110 : decode cX12_kin 110 = .ok (.ifCond .eq 12, 3) := by decide +kernel
theorem dX12_kin_113 : decode cX12_kin 113 = .ok (.iload 5, 2) := by decide +kernel
theorem dX12_kin_115 : decode cX12_kin 115 = .ok (.iconst 1, 1) := by decide +kernel
theorem dX12_kin_116 : decode cX12_kin 116 = .ok (.iload 6, 2) := by decide +kernel
theorem dX12_kin_118 : decode cX12_kin 118 = .ok (.ishl, 1) := by decide +kernel
theorem dX12_kin_119 : decode cX12_kin 119 = .ok (.ior, 1) := by decide +kernel
theorem dX12_kin_120 : decode cX12_kin 120 = .ok (.istore 5, 2) := by decide +kernel
theorem dX12_kin_122 : decode cX12_kin 122 = .ok (.iinc 6 1, 3) := by decide +kernel
theorem dX12_kin_125 : decode cX12_kin 125 = .ok (.goto (-71), 3) := by decide +kernel
theorem dX12_kin_128 : decode cX12_kin 128 = .ok (.iload 5, 2) := by decide +kernel
theorem dX12_kin_130 : decode cX12_kin 130 = .ok (.istore_n 3, 1) := by decide +kernel
theorem dX12_kin_131 : decode cX12_kin 131 = .ok (.iinc 4 1, 3) := by decide +kernel
theorem dX12_kin_134 : decode cX12_kin 134 = .ok (.goto (-104), 3) := by decide +kernel
theorem dX12_kin_137 : decode cX12_kin 137 = .ok (.iconst (-1), 1) := by decide +kernel
theorem dX12_kin_138 : decode cX12_kin 138 = .ok (.ireturn, 1) := by decide +kernel
theorem dX12_write_0 : decode cX12_write 0 = .ok (.aload_n 0, 1) := by decide +kernel
theorem dX12_write_1 : decode cX12_write 1 = .ok (.getfield 70, 3) := by decide +kernel
theorem dX12_write_4 : decode cX12_write 4 = .ok (.aload_n 0, 1) := by decide +kernel
theorem dX12_write_5 : decode cX12_write 5 = .ok (.getfield 335, 3) := by decide +kernel
theorem dX12_write_8 : decode cX12_write 8 = .ok (.iload_n 1, 1) := by decide +kernel
theorem dX12_write_9 : decode cX12_write 9 = .ok (.iastore, 1) := by decide +kernel
theorem dX12_write_10 : decode cX12_write 10 = .ok (.aload_n 0, 1) := by decide +kernel
theorem dX12_write_11 : decode cX12_write 11 = .ok (.dup, 1) := by decide +kernel
theorem dX12_write_12 : decode cX12_write 12 = .ok (.getfield 335, 3) := by decide +kernel
theorem dX12_write_15 : decode cX12_write 15 = .ok (.iconst 1, 1) := by decide +kernel
theorem dX12_write_16 : decode cX12_write 16 = .ok (.iadd, 1) := by decide +kernel
theorem dX12_write_17 : decode cX12_write 17 = .ok (.putfield 335, 3) := by decide +kernel
theorem dX12_write_20 : decode cX12_write 20 = .ok (.return_, 1) := by decide +kernel
theorem dX12_writeWord_0 : decode cX12_writeWord 0 = .ok (.lload_n 1, 1) := by decide +kernel
theorem dX12_writeWord_1 : decode cX12_writeWord 1 = .ok (.ldc2_w 128, 3) := by decide +kernel
theorem dX12_writeWord_4 : decode cX12_writeWord 4 = .ok (.lcmp, 1) := by decide +kernel
theorem dX12_writeWord_5 : decode cX12_writeWord 5 = .ok (.ifCond .lt 12, 3) := by decide +kernel
theorem dX12_writeWord_8 : decode cX12_writeWord 8 = .ok (.aload_n 0, 1) := by decide +kernel
theorem dX12_writeWord_9 : decode cX12_writeWord 9 = .ok (.lload_n 1, 1) := by decide +kernel
theorem dX12_writeWord_10 : decode cX12_writeWord 10 = .ok (.ldc2_w 128, 3) := by decide +kernel
theorem dX12_writeWord_13 : decode cX12_writeWord 13 = .ok (.ldiv, 1) := by decide +kernel
theorem dX12_writeWord_14 : decode cX12_writeWord 14 = .ok (.invokevirtual 338, 3) := by decide +kernel
theorem dX12_writeWord_17 : decode cX12_writeWord 17 = .ok (.aload_n 0, 1) := by decide +kernel
theorem dX12_writeWord_18 : decode cX12_writeWord 18 = .ok (.bipush 96, 2) := by decide +kernel
theorem dX12_writeWord_20 : decode cX12_writeWord 20 = .ok (.lload_n 1, 1) := by decide +kernel
theorem dX12_writeWord_21 : decode cX12_writeWord 21 = .ok (.ldc2_w 128, 3) := by decide +kernel
theorem dX12_writeWord_24 : decode cX12_writeWord 24 = .ok (.lrem, 1) := by decide +kernel
theorem dX12_writeWord_25 : decode cX12_writeWord 25 = .ok (.l2i, 1) := by decide +kernel
theorem dX12_writeWord_26 : decode cX12_writeWord 26 = .ok (.iadd, 1) := by decide +kernel
theorem dX12_writeWord_27 : decode cX12_writeWord 27 = .ok (.invokevirtual 342, 3) := by decide +kernel
theorem dX12_writeWord_30 : decode cX12_writeWord 30 = .ok (.return_, 1) := by decide +kernel
theorem rc_96 : Rg 96 96 96 := ⟨by decide, by decide⟩
set_option maxRecDepth 100000 in
set_option maxHeartbeats 8000000 in
theorem c_X12_kin {l : Launch} {D : va_G} {cy : Nat → ClassId} {L : List Nat} {κ ln : Nat → Nat} {R : Nat → Nat → Option Nat} {I : Nat → Nat → Int32} {J : Nat → Nat → Int64} {ow : Nat → Nat × Nat} (W9 : ∀ a ∈ L, Shp L κ ln R ow a) {x : Nat} (hLx : x ∈ L) (hkx : κ x = 12) (a0 : Int32) (a1 : Int32) (hU : Iw L κ R ow I) : CtI l yX12_kin cX12_kin 8 (some .int) { frames := 2, cells := 0, slots := 0, locals := 43 } D cy L κ ln R I J [.ref x, .int a0, .int a1] (fun r I2 J2 => Iw L κ R ow I2 ∧ Fq L κ ow [1200] I I2 ∧ Fq L κ ow [] J J2 ∧ Rg (-1) 6 r ∧ (r = mKin a0 a1 (NWf R I J x))) := by
  refine CtI.of (by decide +kernel) (Nat.le_of_ble_eq_true rfl) ?_
  intro p e s m below meth c B K
  have C := B.1
  have hF : Fq L κ ow [1200] I I := fq_rf
  have hG : Fq L κ ow [] J J := fq_rf
  obtain ⟨b_1, hb_1, hb_1L, hb_1k, hb_1n, hb_1o⟩ := shp_a (W9 x hLx) hkx 14 14 389 rfl (by decide)
  have ezqx : ∀ I J, NWf R I J x = NWq I J x b_1 := fun I J => by simp only [NWf, rr_, Option.getD_some, hb_1]
  have wzqx : zqw_ L κ ow x b_1 := ⟨⟨hLx, hb_1L⟩, ⟨(ro_o hkx (by decide)), (ro_a hb_1k (by decide) hb_1o hkx rfl)⟩⟩
  obtain ⟨s_2, hs_2⟩ : ∃ z, NWq I J x b_1 = z := ⟨_, rfl⟩
  refine g_lo (is := [0, 1, 2]) (lo2 := [(0, .ref x), (1, .int a0), (2, .int a1)]) rfl ?_
  have l_30 : ∀ (n_30 : Nat) (I_3 : Nat → Nat → Int32) (J_4 : Nat → Nat → Int64) (hU_5 : Iw L κ R ow I_3) (hF_6 : Fq L κ ow [1200] I I_3) (hG_7 : Fq L κ ow [] J J_4) (r_8 : Rg 0 6 a0) (r_9 : Rg 0 6 a1) (v_10 : Int32) (v_11 : Int32) (rv_11 : Rg 0 7 v_11) (q_12 : I_3 x 0 = 0) (hq_13 : mk2 (NWq I_3 J_4 x b_1).nw a1 v_11 v_10 = mKin a0 a1 s_2) (hm_14 : 7 < (v_11 : Int32).toInt + (n_30 : Int)), WG p l e { frames := 2, cells := 0, slots := 0, locals := 43 } s m ([.ref x, .int a0, .int a1] : List Value).toArray below meth c 8 0 0 (MQ below (Qi_ D cy L κ ln R (fun r I2 J2 => Iw L κ R ow I2 ∧ Fq L κ ow [1200] I I2 ∧ Fq L κ ow [] J J2 ∧ Rg (-1) 6 r ∧ (r = mKin a0 a1 (NWf R I J x)))) ([.ref x, .int a0, .int a1] : List Value).toArray s 0 0 (Al_ L)) D cy (Al_ L) s.heap L κ ln R I_3 J_4 30 [(0, .ref x), (1, .int a0), (2, .int a1), (3, .int v_10), (4, .int v_11)] [] := by
    intro n_30
    induction n_30 with
    | zero =>
      intro I_3 J_4 hU_5 hF_6 hG_7 r_8 r_9 v_10 v_11 rv_11 q_12 hq_13 hm_14
      exact ms_0 rv_11 hm_14
    | succ n_30 ih_30 =>
      intro I_3 J_4 hU_5 hF_6 hG_7 r_8 r_9 v_10 v_11 rv_11 q_12 hq_13 hm_14
      obtain ⟨s_15, hs_15⟩ : ∃ z, NWq I_3 J_4 x b_1 = z := ⟨_, rfl⟩
      simp only [hs_15] at hq_13
      have hQ_16 := hq_13.symm
      have l_54 : ∀ (n_54 : Nat) (I_17 : Nat → Nat → Int32) (J_18 : Nat → Nat → Int64) (hU_19 : Iw L κ R ow I_17) (hF_20 : Fq L κ ow [1200] I I_17) (hG_21 : Fq L κ ow [] J J_18) (r_22 : Rg 0 6 a0) (r_23 : Rg 0 6 a1) (v_24 : Int32) (v_25 : Int32) (rv_25 : Rg 0 6 v_25) (v_26 : Int32) (v_27 : Int32) (rv_27 : Rg 0 7 v_27) (q_28 : I_17 x 0 = 0) (hm_29 : 7 < (v_25 : Int32).toInt + ((n_30 + 1 : Nat) : Int)) (hq_30 : mk2 (NWq I_17 J_18 x b_1).nw a1 (v_25 + 1) (mk1 (NWq I_17 J_18 x b_1).nw v_24 v_27 v_26) = mKin a0 a1 s_2) (hm_31 : 7 < (v_27 : Int32).toInt + (n_54 : Int)), WG p l e { frames := 2, cells := 0, slots := 0, locals := 43 } s m ([.ref x, .int a0, .int a1] : List Value).toArray below meth c 8 0 0 (MQ below (Qi_ D cy L κ ln R (fun r I2 J2 => Iw L κ R ow I2 ∧ Fq L κ ow [1200] I I2 ∧ Fq L κ ow [] J J2 ∧ Rg (-1) 6 r ∧ (r = mKin a0 a1 (NWf R I J x)))) ([.ref x, .int a0, .int a1] : List Value).toArray s 0 0 (Al_ L)) D cy (Al_ L) s.heap L κ ln R I_17 J_18 54 [(0, .ref x), (1, .int a0), (2, .int a1), (3, .int v_24), (4, .int v_25), (5, .int v_26), (6, .int v_27)] [] := by
        intro n_54
        induction n_54 with
        | zero =>
          intro I_17 J_18 hU_19 hF_20 hG_21 r_22 r_23 v_24 v_25 rv_25 v_26 v_27 rv_27 q_28 hm_29 hq_30 hm_31
          exact ms_0 rv_27 hm_31
        | succ n_54 ih_54 =>
          intro I_17 J_18 hU_19 hF_20 hG_21 r_22 r_23 v_24 v_25 rv_25 v_26 v_27 rv_27 q_28 hm_29 hq_30 hm_31
          obtain ⟨s_32, hs_32⟩ : ∃ z, NWq I_17 J_18 x b_1 = z := ⟨_, rfl⟩
          simp only [hs_32] at hq_30
          have hQ_33 := hq_30.symm
          have u_34 := mk1_eq (nw := s_32.nw) (s := v_24) (a := v_27) (m := v_26) (rv_27)
          refine g_iload C 6 dX12_kin_54 rfl ?_
          refine g_aload_n C 0 dX12_kin_56 rfl rfl ?_
          refine g_getR C K hLx hkx f_12_13 hb_1 dX12_kin_57 ?_
          refine g_iconst C (v := 0) dX12_kin_60 (by decide) ?_
          obtain ⟨x_35, hx_35, rx_35⟩ := ex_getw (I := I_17) (a := b_1) (j := 0) (lo := 0) (hi := 7) hU_19.1 hb_1L (ro_a hb_1k (by decide) hb_1o hkx rfl) (by decide)
          refine h_iald C K hb_1L hb_1k (v := x_35) (0) (by decide) (by decide) (by rw [hb_1n]; decide) hx_35 dX12_kin_61 ?_
          have f_36 : s_32.nw (0) = x_35 := (congrFun (congrArg NW_.nw hs_32) _).symm.trans hx_35
          refine g_icmp_ge C (tgt := 128) dX12_kin_62 (by decide) (fun h_37 => ?_) (fun h_37 => ?_)
          · skip
            refine g_iload C 5 dX12_kin_128 rfl ?_
            refine g_istore_n C dX12_kin_130 rfl (by decide) (lo2 := [(3, .int v_26), (0, .ref x), (1, .int a0), (2, .int a1), (4, .int v_25), (5, .int v_26), (6, .int v_27)]) rfl ?_
            obtain ⟨x_38, hx_38, rx_38, tx_38⟩ := ex_add (y := 1) 1 7 rv_25 rc_1 (by decide) (by decide) (by decide) (by decide)
            refine g_iinc C dX12_kin_131 (k := 4) (v := x_38) rfl hx_38 (by decide) (lo2 := [(4, .int x_38), (3, .int v_26), (0, .ref x), (1, .int a0), (2, .int a1), (5, .int v_26), (6, .int v_27)]) rfl ?_
            refine g_goto C (tgt := 30) dX12_kin_134 (by decide) ?_
            refine g_lo (is := [2, 3, 4, 1, 0]) (lo2 := [(0, .ref x), (1, .int a0), (2, .int a1), (3, .int v_26), (4, .int x_38)]) rfl ?_
            exact ih_30 I_17 J_18 hU_19 hF_20 hG_21 (r_22) (r_23) v_26 x_38 (rg_w rx_38 (by decide) (by decide)) q_28 (by (try simp only [hx_35, f_36, h_37, hx_38, if_true, if_false, zqM_nw, NW_.w_nw] at hQ_33); (try simp only [hx_35, f_36, h_37, hx_38, if_true, if_false, zqM_nw, NW_.w_nw] at u_34); simp only [ezqx, hs_32, hs_2, hQ_33, u_34, hx_35, f_36, h_37, hx_38, if_true, if_false, zqM_nw, NW_.w_nw]) (ms_1 hm_29 (ti_k tx_38 rc_1) (by decide))
          · skip
            have r_39 := lt_l (hi := 6) (nle h_37) rv_27 rx_35 (by decide)
            have r_40 := lt_r (lo := 1) (nle h_37) rv_27 rx_35 (by decide)
            refine g_aload_n C 0 dX12_kin_65 rfl rfl ?_
            refine g_getR C K hLx hkx f_12_13 hb_1 dX12_kin_66 ?_
            refine g_bipush C (v := 11) dX12_kin_69 (by decide) ?_
            refine g_iload C 6 dX12_kin_71 rfl ?_
            obtain ⟨x_41, hx_41, rx_41, tx_41⟩ := ex_add 11 17 rc_11 r_39 (by decide) (by decide) (by decide) (by decide)
            refine g_iadd C (v := x_41) dX12_kin_73 hx_41 ?_
            obtain ⟨x_42, hx_42, rx_42⟩ := ex_any (z0 := I_17 b_1 (x_41.toNatClampNeg))
            refine h_iald C K hb_1L hb_1k (v := x_42) (x_41.toNatClampNeg) (rfl) (ix_0 rx_41 (by decide)) (ix_lt rx_41 (by decide) hb_1n (by decide)) hx_42 dX12_kin_74 ?_
            have f_43 : s_32.nw (x_41.toNatClampNeg) = x_42 := (congrFun (congrArg NW_.nw hs_32) _).symm.trans hx_42
            refine g_istore C dX12_kin_75 (by decide) (lo2 := [(7, .int x_42), (0, .ref x), (1, .int a0), (2, .int a1), (3, .int v_24), (4, .int v_25), (5, .int v_26), (6, .int v_27)]) rfl ?_
            refine g_iload C 0 dX12_kin_77 rfl ?_
            refine g_iconst C (v := (-1)) dX12_kin_79 (by decide) ?_
            refine g_icmp_ne C (tgt := 86) dX12_kin_80 (by decide) (fun h_44 => ?_) (fun h_44 => ?_)
            · skip
              have n_45 : ¬ x_42 = (-1) := h_44
              refine g_iload_n C 4 dX12_kin_86 rfl rfl ?_
              refine g_iload C 7 dX12_kin_87 rfl ?_
              refine g_callSI C K (c_X12_has W9 v_24 v_27  hU_19) s_12_231 rfl ⟨rfl, rfl⟩ ⟨Nat.le_of_ble_eq_true rfl, Nat.le_of_ble_eq_true rfl⟩ (Nat.le_of_ble_eq_true rfl) ⟨Nat.le_of_ble_eq_true rfl, Nat.le_of_ble_eq_true rfl⟩ dX12_kin_89 rfl (st := []) (fun x_46 I_47 J_48 h_49 => ?_)
              obtain ⟨rfl, rfl, rx_46, fx_46, ex_46⟩ := h_49
              have c_50 : mHas (v_24) (v_27) = x_46 := fx_46.symm
              refine g_if_eq C (tgt := 104) dX12_kin_92 (by decide) (fun h_51 => ?_) (fun h_51 => ?_)
              · skip
                have r_52 := (⟨(rx_46).1, (eq_rg (h_51) rc_0).2⟩ : Rg 0 0 x_46)
                refine g_iload_n C 4 dX12_kin_104 rfl rfl ?_
                refine g_iload C 0 dX12_kin_105 rfl ?_
                refine g_callSI C K (c_X12_has W9 v_24 x_42  hU_19) s_12_231 rfl ⟨rfl, rfl⟩ ⟨Nat.le_of_ble_eq_true rfl, Nat.le_of_ble_eq_true rfl⟩ (Nat.le_of_ble_eq_true rfl) ⟨Nat.le_of_ble_eq_true rfl, Nat.le_of_ble_eq_true rfl⟩ dX12_kin_107 rfl (st := []) (fun x_53 I_54 J_55 h_56 => ?_)
                obtain ⟨rfl, rfl, rx_53, fx_53, ex_53⟩ := h_56
                have c_57 : mHas (v_24) (x_42) = x_53 := fx_53.symm
                refine g_if_eq C (tgt := 122) dX12_kin_110 (by decide) (fun h_58 => ?_) (fun h_58 => ?_)
                · skip
                  have r_59 := (⟨(rx_53).1, (eq_rg (h_58) rc_0).2⟩ : Rg 0 0 x_53)
                  obtain ⟨x_60, hx_60, rx_60, tx_60⟩ := ex_add (y := 1) 1 7 r_39 rc_1 (by decide) (by decide) (by decide) (by decide)
                  refine g_iinc C dX12_kin_122 (k := 7) (v := x_60) rfl hx_60 (by decide) (lo2 := [(6, .int x_60), (7, .int x_42), (0, .ref x), (1, .int a0), (2, .int a1), (3, .int v_24), (4, .int v_25), (5, .int v_26)]) rfl ?_
                  refine g_goto C (tgt := 54) dX12_kin_125 (by decide) ?_
                  refine g_lo (is := [2, 3, 4, 5, 6, 7, 0]) (lo2 := [(0, .ref x), (1, .int a0), (2, .int a1), (3, .int v_24), (4, .int v_25), (5, .int v_26), (6, .int x_60)]) rfl ?_
                  exact ih_54 I_17 J_18 hU_19 hF_20 hG_21 (r_22) (r_23) v_24 v_25 (rv_25) v_26 x_60 (rg_w rx_60 (by decide) (by decide)) q_28 hm_29 (by (try simp only [hx_35, f_36, h_37, (nle h_37), hx_41, hx_42, f_43, h_44, c_50, (eq_true h_51), c_57, (eq_true h_58), hx_60, if_true, if_false, zqM_nw, NW_.w_nw] at hQ_33); (try simp only [hx_35, f_36, h_37, (nle h_37), hx_41, hx_42, f_43, h_44, c_50, (eq_true h_51), c_57, (eq_true h_58), hx_60, if_true, if_false, zqM_nw, NW_.w_nw] at u_34); simp only [ezqx, hs_32, hs_2, hQ_33, u_34, hx_35, f_36, h_37, (nle h_37), hx_41, hx_42, f_43, h_44, c_50, (eq_true h_51), c_57, (eq_true h_58), hx_60, if_true, if_false, zqM_nw, NW_.w_nw]) (ms_1 hm_31 (ti_k tx_60 rc_1) (by decide))
                · skip
                  have n_61 : ¬ x_53 = 0 := h_58
                  have r_62 := ne_lo (lo := 1) n_61 rx_53 rc_0 rfl (by decide)
                  refine g_iload C 6 dX12_kin_113 rfl ?_
                  refine g_iconst C (v := 1) dX12_kin_115 (by decide) ?_
                  refine g_iload C 7 dX12_kin_116 rfl ?_
                  obtain ⟨x_63, hx_63, rx_63⟩ := ex_shl (x := 1) (y := v_27) 6 64 rfl (r_39) (by decide)
                  refine g_ishl C (v := x_63) dX12_kin_118 hx_63 ?_
                  obtain ⟨x_64, hx_64, rx_64⟩ := ex_any (z0 := v_26 ||| x_63)
                  refine g_ior C (v := x_64) dX12_kin_119 hx_64 ?_
                  refine g_istore C dX12_kin_120 (by decide) (lo2 := [(5, .int x_64), (7, .int x_42), (0, .ref x), (1, .int a0), (2, .int a1), (3, .int v_24), (4, .int v_25), (6, .int v_27)]) rfl ?_
                  obtain ⟨x_65, hx_65, rx_65, tx_65⟩ := ex_add (y := 1) 1 7 r_39 rc_1 (by decide) (by decide) (by decide) (by decide)
                  refine g_iinc C dX12_kin_122 (k := 7) (v := x_65) rfl hx_65 (by decide) (lo2 := [(6, .int x_65), (5, .int x_64), (7, .int x_42), (0, .ref x), (1, .int a0), (2, .int a1), (3, .int v_24), (4, .int v_25)]) rfl ?_
                  refine g_goto C (tgt := 54) dX12_kin_125 (by decide) ?_
                  refine g_lo (is := [3, 4, 5, 6, 7, 1, 0]) (lo2 := [(0, .ref x), (1, .int a0), (2, .int a1), (3, .int v_24), (4, .int v_25), (5, .int x_64), (6, .int x_65)]) rfl ?_
                  exact ih_54 I_17 J_18 hU_19 hF_20 hG_21 (r_22) (r_23) v_24 v_25 (rv_25) x_64 x_65 (rg_w rx_65 (by decide) (by decide)) q_28 hm_29 (by (try simp only [hx_35, f_36, h_37, (nle h_37), hx_41, hx_42, f_43, h_44, c_50, (eq_true h_51), c_57, h_58, hx_63, hx_64, hx_65, if_true, if_false, zqM_nw, NW_.w_nw] at hQ_33); (try simp only [hx_35, f_36, h_37, (nle h_37), hx_41, hx_42, f_43, h_44, c_50, (eq_true h_51), c_57, h_58, hx_63, hx_64, hx_65, if_true, if_false, zqM_nw, NW_.w_nw] at u_34); simp only [ezqx, hs_32, hs_2, hQ_33, u_34, hx_35, f_36, h_37, (nle h_37), hx_41, hx_42, f_43, h_44, c_50, (eq_true h_51), c_57, h_58, hx_63, hx_64, hx_65, if_true, if_false, zqM_nw, NW_.w_nw]) (ms_1 hm_31 (ti_k tx_65 rc_1) (by decide))
              · skip
                have n_66 : ¬ x_46 = 0 := h_51
                have r_67 := ne_lo (lo := 1) n_66 rx_46 rc_0 rfl (by decide)
                refine g_iload C 6 dX12_kin_95 rfl ?_
                refine g_iconst C (v := 1) dX12_kin_97 (by decide) ?_
                refine g_iload C 0 dX12_kin_98 rfl ?_
                obtain ⟨x_68, hx_68, rx_68⟩ := ex_any (z0 := 1 <<< (x_42 &&& 31))
                refine g_ishl C (v := x_68) dX12_kin_100 hx_68 ?_
                obtain ⟨x_69, hx_69, rx_69⟩ := ex_any (z0 := v_26 ||| x_68)
                refine g_ior C (v := x_69) dX12_kin_101 hx_69 ?_
                refine g_istore C dX12_kin_102 (by decide) (lo2 := [(5, .int x_69), (7, .int x_42), (0, .ref x), (1, .int a0), (2, .int a1), (3, .int v_24), (4, .int v_25), (6, .int v_27)]) rfl ?_
                refine g_iload_n C 5 dX12_kin_104 rfl rfl ?_
                refine g_iload C 1 dX12_kin_105 rfl ?_
                refine g_callSI C K (c_X12_has W9 v_24 x_42  hU_19) s_12_231 rfl ⟨rfl, rfl⟩ ⟨Nat.le_of_ble_eq_true rfl, Nat.le_of_ble_eq_true rfl⟩ (Nat.le_of_ble_eq_true rfl) ⟨Nat.le_of_ble_eq_true rfl, Nat.le_of_ble_eq_true rfl⟩ dX12_kin_107 rfl (st := []) (fun x_70 I_71 J_72 h_73 => ?_)
                obtain ⟨rfl, rfl, rx_70, fx_70, ex_70⟩ := h_73
                have c_74 : mHas (v_24) (x_42) = x_70 := fx_70.symm
                refine g_if_eq C (tgt := 122) dX12_kin_110 (by decide) (fun h_75 => ?_) (fun h_75 => ?_)
                · skip
                  have r_76 := (⟨(rx_70).1, (eq_rg (h_75) rc_0).2⟩ : Rg 0 0 x_70)
                  obtain ⟨x_77, hx_77, rx_77, tx_77⟩ := ex_add (y := 1) 1 7 r_39 rc_1 (by decide) (by decide) (by decide) (by decide)
                  refine g_iinc C dX12_kin_122 (k := 7) (v := x_77) rfl hx_77 (by decide) (lo2 := [(6, .int x_77), (5, .int x_69), (7, .int x_42), (0, .ref x), (1, .int a0), (2, .int a1), (3, .int v_24), (4, .int v_25)]) rfl ?_
                  refine g_goto C (tgt := 54) dX12_kin_125 (by decide) ?_
                  refine g_lo (is := [3, 4, 5, 6, 7, 1, 0]) (lo2 := [(0, .ref x), (1, .int a0), (2, .int a1), (3, .int v_24), (4, .int v_25), (5, .int x_69), (6, .int x_77)]) rfl ?_
                  exact ih_54 I_17 J_18 hU_19 hF_20 hG_21 (r_22) (r_23) v_24 v_25 (rv_25) x_69 x_77 (rg_w rx_77 (by decide) (by decide)) q_28 hm_29 (by (try simp only [hx_35, f_36, h_37, (nle h_37), hx_41, hx_42, f_43, h_44, c_50, h_51, hx_68, hx_69, c_74, (eq_true h_75), hx_77, if_true, if_false, zqM_nw, NW_.w_nw] at hQ_33); (try simp only [hx_35, f_36, h_37, (nle h_37), hx_41, hx_42, f_43, h_44, c_50, h_51, hx_68, hx_69, c_74, (eq_true h_75), hx_77, if_true, if_false, zqM_nw, NW_.w_nw] at u_34); simp only [ezqx, hs_32, hs_2, hQ_33, u_34, hx_35, f_36, h_37, (nle h_37), hx_41, hx_42, f_43, h_44, c_50, h_51, hx_68, hx_69, c_74, (eq_true h_75), hx_77, if_true, if_false, zqM_nw, NW_.w_nw]) (ms_1 hm_31 (ti_k tx_77 rc_1) (by decide))
                · skip
                  have n_78 : ¬ x_70 = 0 := h_75
                  have r_79 := ne_lo (lo := 1) n_78 rx_70 rc_0 rfl (by decide)
                  refine g_iload C 0 dX12_kin_113 rfl ?_
                  refine g_iconst C (v := 1) dX12_kin_115 (by decide) ?_
                  refine g_iload C 7 dX12_kin_116 rfl ?_
                  obtain ⟨x_80, hx_80, rx_80⟩ := ex_shl (x := 1) (y := v_27) 6 64 rfl (r_39) (by decide)
                  refine g_ishl C (v := x_80) dX12_kin_118 hx_80 ?_
                  obtain ⟨x_81, hx_81, rx_81⟩ := ex_any (z0 := x_69 ||| x_80)
                  refine g_ior C (v := x_81) dX12_kin_119 hx_81 ?_
                  refine g_istore C dX12_kin_120 (by decide) (lo2 := [(5, .int x_81), (7, .int x_42), (0, .ref x), (1, .int a0), (2, .int a1), (3, .int v_24), (4, .int v_25), (6, .int v_27)]) rfl ?_
                  obtain ⟨x_82, hx_82, rx_82, tx_82⟩ := ex_add (y := 1) 1 7 r_39 rc_1 (by decide) (by decide) (by decide) (by decide)
                  refine g_iinc C dX12_kin_122 (k := 7) (v := x_82) rfl hx_82 (by decide) (lo2 := [(6, .int x_82), (5, .int x_81), (7, .int x_42), (0, .ref x), (1, .int a0), (2, .int a1), (3, .int v_24), (4, .int v_25)]) rfl ?_
                  refine g_goto C (tgt := 54) dX12_kin_125 (by decide) ?_
                  refine g_lo (is := [3, 4, 5, 6, 7, 1, 0]) (lo2 := [(0, .ref x), (1, .int a0), (2, .int a1), (3, .int v_24), (4, .int v_25), (5, .int x_81), (6, .int x_82)]) rfl ?_
                  exact ih_54 I_17 J_18 hU_19 hF_20 hG_21 (r_22) (r_23) v_24 v_25 (rv_25) x_81 x_82 (rg_w rx_82 (by decide) (by decide)) q_28 hm_29 (by (try simp only [hx_35, f_36, h_37, (nle h_37), hx_41, hx_42, f_43, h_44, c_50, h_51, hx_68, hx_69, c_74, h_75, hx_80, hx_81, hx_82, if_true, if_false, zqM_nw, NW_.w_nw] at hQ_33); (try simp only [hx_35, f_36, h_37, (nle h_37), hx_41, hx_42, f_43, h_44, c_50, h_51, hx_68, hx_69, c_74, h_75, hx_80, hx_81, hx_82, if_true, if_false, zqM_nw, NW_.w_nw] at u_34); simp only [ezqx, hs_32, hs_2, hQ_33, u_34, hx_35, f_36, h_37, (nle h_37), hx_41, hx_42, f_43, h_44, c_50, h_51, hx_68, hx_69, c_74, h_75, hx_80, hx_81, hx_82, if_true, if_false, zqM_nw, NW_.w_nw]) (ms_1 hm_31 (ti_k tx_82 rc_1) (by decide))
            · skip
              have r_83 := (⟨(eq_rg (h_44) rc_m1).1, (eq_rg (h_44) rc_m1).2⟩ : Rg (-1) (-1) x_42)
              refine g_goto C (tgt := 122) dX12_kin_83 (by decide) ?_
              obtain ⟨x_84, hx_84, rx_84, tx_84⟩ := ex_add (y := 1) 1 7 r_39 rc_1 (by decide) (by decide) (by decide) (by decide)
              refine g_iinc C dX12_kin_122 (k := 7) (v := x_84) rfl hx_84 (by decide) (lo2 := [(6, .int x_84), (7, .int x_42), (0, .ref x), (1, .int a0), (2, .int a1), (3, .int v_24), (4, .int v_25), (5, .int v_26)]) rfl ?_
              refine g_goto C (tgt := 54) dX12_kin_125 (by decide) ?_
              refine g_lo (is := [2, 3, 4, 5, 6, 7, 0]) (lo2 := [(0, .ref x), (1, .int a0), (2, .int a1), (3, .int v_24), (4, .int v_25), (5, .int v_26), (6, .int x_84)]) rfl ?_
              exact ih_54 I_17 J_18 hU_19 hF_20 hG_21 (r_22) (r_23) v_24 v_25 (rv_25) v_26 x_84 (rg_w rx_84 (by decide) (by decide)) q_28 hm_29 (by (try simp only [hx_35, f_36, h_37, (nle h_37), hx_41, hx_42, f_43, (eq_true h_44), hx_84, if_true, if_false, zqM_nw, NW_.w_nw] at hQ_33); (try simp only [hx_35, f_36, h_37, (nle h_37), hx_41, hx_42, f_43, (eq_true h_44), hx_84, if_true, if_false, zqM_nw, NW_.w_nw] at u_34); simp only [ezqx, hs_32, hs_2, hQ_33, u_34, hx_35, f_36, h_37, (nle h_37), hx_41, hx_42, f_43, (eq_true h_44), hx_84, if_true, if_false, zqM_nw, NW_.w_nw]) (ms_1 hm_31 (ti_k tx_84 rc_1) (by decide))
      have u_85 := mk2_eq (nw := s_15.nw) (q := a1) (k := v_11) (s := v_10) (rv_11)
      refine g_iload C 4 dX12_kin_30 rfl ?_
      refine g_bipush C (v := 7) dX12_kin_32 (by decide) ?_
      refine g_icmp_ge C (tgt := 137) dX12_kin_34 (by decide) (fun h_86 => ?_) (fun h_86 => ?_)
      · skip
        have r_87 := le_r (h_86) rc_7 rv_11
        refine g_iconst C (v := (-1)) dX12_kin_137 (by decide) ?_
        exact g_zret (ty := .int) (r := (-1)) B K rfl (rfl) ⟨hU_5, hF_6, hG_7, rg_w rc_m1 (by decide) (by decide), (by (try simp only [h_86, if_true, if_false, zqM_nw, NW_.w_nw] at hQ_16); (try simp only [h_86, if_true, if_false, zqM_nw, NW_.w_nw] at u_85); simp only [ezqx, hs_15, hs_2, hQ_16, u_85, h_86, if_true, if_false, zqM_nw, NW_.w_nw])⟩ dX12_kin_138
      · skip
        have r_88 := lt_l (hi := 6) (nle h_86) rv_11 rc_7 (by decide)
        refine g_iload_n C 3 dX12_kin_37 rfl rfl ?_
        refine g_iload_n C 2 dX12_kin_38 rfl rfl ?_
        refine g_callSI C K (c_X12_has W9 v_10 a1  hU_5) s_12_231 rfl ⟨rfl, rfl⟩ ⟨Nat.le_of_ble_eq_true rfl, Nat.le_of_ble_eq_true rfl⟩ (Nat.le_of_ble_eq_true rfl) ⟨Nat.le_of_ble_eq_true rfl, Nat.le_of_ble_eq_true rfl⟩ dX12_kin_39 rfl (st := []) (fun x_89 I_90 J_91 h_92 => ?_)
        obtain ⟨rfl, rfl, rx_89, fx_89, ex_89⟩ := h_92
        have c_93 : mHas (v_10) (a1) = x_89 := fx_89.symm
        refine g_if_eq C (tgt := 48) dX12_kin_42 (by decide) (fun h_94 => ?_) (fun h_94 => ?_)
        · skip
          have r_95 := (⟨(rx_89).1, (eq_rg (h_94) rc_0).2⟩ : Rg 0 0 x_89)
          refine g_iload_n C 3 dX12_kin_48 rfl rfl ?_
          refine g_istore C dX12_kin_49 (by decide) (lo2 := [(5, .int v_10), (0, .ref x), (1, .int a0), (2, .int a1), (3, .int v_10), (4, .int v_11)]) rfl ?_
          refine g_iconst C (v := 0) dX12_kin_51 (by decide) ?_
          refine g_istore C dX12_kin_52 (by decide) (lo2 := [(6, .int 0), (5, .int v_10), (0, .ref x), (1, .int a0), (2, .int a1), (3, .int v_10), (4, .int v_11)]) rfl ?_
          refine g_lo (is := [2, 3, 4, 5, 6, 1, 0]) (lo2 := [(0, .ref x), (1, .int a0), (2, .int a1), (3, .int v_10), (4, .int v_11), (5, .int v_10), (6, .int 0)]) rfl ?_
          exact l_54 8 I_3 J_4 hU_5 hF_6 hG_7 (r_8) (r_9) v_10 v_11 (r_88) v_10 0 (rg_w rc_0 (by decide) (by decide)) q_12 hm_14 (by (try simp only [h_86, (nle h_86), c_93, (eq_true h_94), if_true, if_false, zqM_nw, NW_.w_nw] at hQ_16); (try simp only [h_86, (nle h_86), c_93, (eq_true h_94), if_true, if_false, zqM_nw, NW_.w_nw] at u_85); simp only [ezqx, hs_15, hs_2, hQ_16, u_85, h_86, (nle h_86), c_93, (eq_true h_94), if_true, if_false, zqM_nw, NW_.w_nw]) (ms_s (a := 0) (b := 7) (N := 8) (rg_w rc_0 (by decide) (by decide)) (by decide))
        · skip
          have n_96 : ¬ x_89 = 0 := h_94
          have r_97 := ne_lo (lo := 1) n_96 rx_89 rc_0 rfl (by decide)
          refine g_iload C 4 dX12_kin_45 rfl ?_
          exact g_zret (ty := .int) (r := v_11) B K rfl (rfl) ⟨hU_5, hF_6, hG_7, rg_w r_88 (by decide) (by decide), (by (try simp only [h_86, (nle h_86), c_93, h_94, if_true, if_false, zqM_nw, NW_.w_nw] at hQ_16); (try simp only [h_86, (nle h_86), c_93, h_94, if_true, if_false, zqM_nw, NW_.w_nw] at u_85); simp only [ezqx, hs_15, hs_2, hQ_16, u_85, h_86, (nle h_86), c_93, h_94, if_true, if_false, zqM_nw, NW_.w_nw])⟩ dX12_kin_47
  refine g_aload_n C 0 dX12_kin_0 rfl rfl ?_
  refine g_iconst C (v := 0) dX12_kin_1 (by decide) ?_
  refine h_putI C K hLx hkx f_12_82 p_12_0 dX12_kin_2 (fun I_98 hI_98 => ?_)
  have hU_99 := iw_put W9 hU hI_98 (ro_o hkx (by decide)) (lo := (-2147483648)) (hi := 2147483647) (rfl) (rg_all _) rfl
  have hF_100 := fq_puto hF hI_98 hkx (by decide) (by decide)
  have hs_101 : NWq I_98 J x b_1 = s_2 := by rw [hI_98]; exact (zq_oI wzqx (ro_o hkx (by decide)) (by decide)).trans hs_2
  refine g_aload_n C 0 dX12_kin_5 rfl rfl ?_
  refine g_iload_n C 1 dX12_kin_6 rfl rfl ?_
  refine g_callVI C K (c_X12_isPerson W9 hLx hkx a0  hU_99) hLx hkx (by decide) rfl v_12_238 rfl ⟨rfl, rfl⟩ ⟨Nat.le_of_ble_eq_true rfl, Nat.le_of_ble_eq_true rfl⟩ (Nat.le_of_ble_eq_true rfl) ⟨Nat.le_of_ble_eq_true rfl, Nat.le_of_ble_eq_true rfl⟩ dX12_kin_7 rfl (st := []) (fun x_102 I_103 J_104 h_105 => ?_)
  obtain ⟨rfl, rfl, rx_102, fx_102, ex_102⟩ := h_105
  have c_106 : mIsPerson (a0) (s_2) = x_102 := by have q := fx_102; simp only [ezqx, hs_101] at q; exact q.symm
  refine g_if_eq C (tgt := 21) dX12_kin_10 (by decide) (fun h_107 => ?_) (fun h_107 => ?_)
  · skip
    have r_108 := (⟨(rx_102).1, (eq_rg (h_107) rc_0).2⟩ : Rg 0 0 x_102)
    refine g_iconst C (v := (-1)) dX12_kin_21 (by decide) ?_
    exact g_zret (ty := .int) (r := (-1)) B K rfl (rfl) ⟨hU_99, hF_100, hG, rg_w rc_m1 (by decide) (by decide), (by simp only [mKin, ezqx, hs_101, hs_2, c_106, (eq_true h_107), if_true, if_false, zqM_nw, NW_.w_nw])⟩ dX12_kin_22
  · skip
    have n_109 : ¬ x_102 = 0 := h_107
    have r_110 := ne_lo (lo := 1) n_109 rx_102 rc_0 rfl (by decide)
    have r_111 := rg_i (rg_all a0) ((ex_102) n_109) (lo := 0) (hi := 6) (by decide) (by decide)
    refine g_aload_n C 0 dX12_kin_13 rfl rfl ?_
    refine g_iload_n C 2 dX12_kin_14 rfl rfl ?_
    refine g_callVI C K (c_X12_isPerson W9 hLx hkx a1  hU_99) hLx hkx (by decide) rfl v_12_238 rfl ⟨rfl, rfl⟩ ⟨Nat.le_of_ble_eq_true rfl, Nat.le_of_ble_eq_true rfl⟩ (Nat.le_of_ble_eq_true rfl) ⟨Nat.le_of_ble_eq_true rfl, Nat.le_of_ble_eq_true rfl⟩ dX12_kin_15 rfl (st := []) (fun x_112 I_113 J_114 h_115 => ?_)
    obtain ⟨rfl, rfl, rx_112, fx_112, ex_112⟩ := h_115
    have c_116 : mIsPerson (a1) (s_2) = x_112 := by have q := fx_112; simp only [ezqx, hs_101] at q; exact q.symm
    refine g_if_ne C (tgt := 23) dX12_kin_18 (by decide) (fun h_117 => ?_) (fun h_117 => ?_)
    · skip
      have n_118 : ¬ x_112 = 0 := h_117
      have r_119 := ne_lo (lo := 1) n_118 rx_112 rc_0 rfl (by decide)
      have r_120 := rg_i (rg_all a1) ((ex_112) n_118) (lo := 0) (hi := 6) (by decide) (by decide)
      refine g_iconst C (v := 1) dX12_kin_23 (by decide) ?_
      refine g_iload_n C 1 dX12_kin_24 rfl rfl ?_
      obtain ⟨x_121, hx_121, rx_121⟩ := ex_shl (x := 1) (y := a0) 6 64 rfl (r_111) (by decide)
      refine g_ishl C (v := x_121) dX12_kin_25 hx_121 ?_
      refine g_istore_n C dX12_kin_26 rfl (by decide) (lo2 := [(3, .int x_121), (0, .ref x), (1, .int a0), (2, .int a1)]) rfl ?_
      refine g_iconst C (v := 0) dX12_kin_27 (by decide) ?_
      refine g_istore C dX12_kin_28 (by decide) (lo2 := [(4, .int 0), (3, .int x_121), (0, .ref x), (1, .int a0), (2, .int a1)]) rfl ?_
      refine g_lo (is := [2, 3, 4, 1, 0]) (lo2 := [(0, .ref x), (1, .int a0), (2, .int a1), (3, .int x_121), (4, .int 0)]) rfl ?_
      exact l_30 8 I_98 J hU_99 hF_100 hG (r_111) (r_120) x_121 0 (rg_w rc_0 (by decide) (by decide)) (kp_s hI_98) (by simp only [mKin, ezqx, hs_101, hs_2, c_106, h_107, c_116, h_117, hx_121, if_true, if_false, zqM_nw, NW_.w_nw]) (ms_s (a := 0) (b := 7) (N := 8) (rg_w rc_0 (by decide) (by decide)) (by decide))
    · skip
      have r_122 := (⟨(rx_112).1, (eq_rg (h_117) rc_0).2⟩ : Rg 0 0 x_112)
      refine g_iconst C (v := (-1)) dX12_kin_21 (by decide) ?_
      exact g_zret (ty := .int) (r := (-1)) B K rfl (rfl) ⟨hU_99, hF_100, hG, rg_w rc_m1 (by decide) (by decide), (by simp only [mKin, ezqx, hs_101, hs_2, c_106, h_107, c_116, (eq_true h_117), if_true, if_false, zqM_nw, NW_.w_nw])⟩ dX12_kin_22
set_option maxRecDepth 100000 in
set_option maxHeartbeats 8000000 in
theorem c_X12_hungriest {l : Launch} {D : va_G} {cy : Nat → ClassId} {L : List Nat} {κ ln : Nat → Nat} {R : Nat → Nat → Option Nat} {I : Nat → Nat → Int32} {J : Nat → Nat → Int64} {ow : Nat → Nat × Nat} (W9 : ∀ a ∈ L, Shp L κ ln R ow a) {x : Nat} (hLx : x ∈ L) (hkx : κ x = 12) (hU : Iw L κ R ow I) : CtI l yX12_hungriest cX12_hungriest 3 (some .int) { frames := 2, cells := 0, slots := 0, locals := 42 } D cy L κ ln R I J [.ref x] (fun r I2 J2 => Iw L κ R ow I2 ∧ Fq L κ ow [1200] I I2 ∧ Fq L κ ow [] J J2 ∧ Rg (-1) 6 r) := by
  refine CtI.of (by decide +kernel) (Nat.le_of_ble_eq_true rfl) ?_
  intro p e s m below meth c B K
  have C := B.1
  have hF : Fq L κ ow [1200] I I := fq_rf
  have hG : Fq L κ ow [] J J := fq_rf
  obtain ⟨b_1, hb_1, hb_1L, hb_1k, hb_1n, hb_1o⟩ := shp_a (W9 x hLx) hkx 14 14 389 rfl (by decide)
  refine g_lo (is := [0]) (lo2 := [(0, .ref x)]) rfl ?_
  have l_9 : ∀ (n_9 : Nat) (I_2 : Nat → Nat → Int32) (J_3 : Nat → Nat → Int64) (hU_4 : Iw L κ R ow I_2) (hF_5 : Fq L κ ow [1200] I I_2) (hG_6 : Fq L κ ow [] J J_3) (v_7 : Int32) (rv_7 : Rg (-1) 6 v_7) (v_8 : Int32) (rv_8 : Rg 0 7 v_8) (q_9 : I_2 x 0 = 0) (hm_10 : 7 < (v_8 : Int32).toInt + (n_9 : Int)), WG p l e { frames := 2, cells := 0, slots := 0, locals := 42 } s m ([.ref x] : List Value).toArray below meth c 3 0 0 (MQ below (Qi_ D cy L κ ln R (fun r I2 J2 => Iw L κ R ow I2 ∧ Fq L κ ow [1200] I I2 ∧ Fq L κ ow [] J J2 ∧ Rg (-1) 6 r)) ([.ref x] : List Value).toArray s 0 0 (Al_ L)) D cy (Al_ L) s.heap L κ ln R I_2 J_3 9 [(0, .ref x), (1, .int v_7), (2, .int v_8)] [] := by
    intro n_9
    induction n_9 with
    | zero =>
      intro I_2 J_3 hU_4 hF_5 hG_6 v_7 rv_7 v_8 rv_8 q_9 hm_10
      exact ms_0 rv_8 hm_10
    | succ n_9 ih_9 =>
      intro I_2 J_3 hU_4 hF_5 hG_6 v_7 rv_7 v_8 rv_8 q_9 hm_10
      have j_55 : ∀ (I_11 : Nat → Nat → Int32) (J_12 : Nat → Nat → Int64) (hU_13 : Iw L κ R ow I_11) (hF_14 : Fq L κ ow [1200] I I_11) (hG_15 : Fq L κ ow [] J J_12) (v_16 : Int32) (rv_16 : Rg (-1) 6 v_16) (v_17 : Int32) (rv_17 : Rg 0 6 v_17) (q_18 : I_11 x 0 = 0) (hm_19 : 7 < (v_17 : Int32).toInt + ((n_9 + 1 : Nat) : Int)), WG p l e { frames := 2, cells := 0, slots := 0, locals := 42 } s m ([.ref x] : List Value).toArray below meth c 3 0 0 (MQ below (Qi_ D cy L κ ln R (fun r I2 J2 => Iw L κ R ow I2 ∧ Fq L κ ow [1200] I I2 ∧ Fq L κ ow [] J J2 ∧ Rg (-1) 6 r)) ([.ref x] : List Value).toArray s 0 0 (Al_ L)) D cy (Al_ L) s.heap L κ ln R I_11 J_12 55 [(0, .ref x), (1, .int v_16), (2, .int v_17)] [] := by
        intro I_11 J_12 hU_13 hF_14 hG_15 v_16 rv_16 v_17 rv_17 q_18 hm_19
        obtain ⟨x_20, hx_20, rx_20, tx_20⟩ := ex_add (y := 1) 1 7 rv_17 rc_1 (by decide) (by decide) (by decide) (by decide)
        refine g_iinc C dX12_hungriest_55 (k := 2) (v := x_20) rfl hx_20 (by decide) (lo2 := [(2, .int x_20), (0, .ref x), (1, .int v_16)]) rfl ?_
        refine g_goto C (tgt := 9) dX12_hungriest_58 (by decide) ?_
        refine g_lo (is := [1, 2, 0]) (lo2 := [(0, .ref x), (1, .int v_16), (2, .int x_20)]) rfl ?_
        exact ih_9 I_11 J_12 hU_13 hF_14 hG_15 v_16 (rv_16) x_20 (rg_w rx_20 (by decide) (by decide)) q_18 (ms_1 hm_19 (ti_k tx_20 rc_1) (by decide))
      have j_53 : ∀ (I_21 : Nat → Nat → Int32) (J_22 : Nat → Nat → Int64) (hU_23 : Iw L κ R ow I_21) (hF_24 : Fq L κ ow [1200] I I_21) (hG_25 : Fq L κ ow [] J J_22) (v_26 : Int32) (rv_26 : Rg (-1) 6 v_26) (v_27 : Int32) (rv_27 : Rg 0 6 v_27) (q_28 : I_21 x 0 = 0) (hm_29 : 7 < (v_27 : Int32).toInt + ((n_9 + 1 : Nat) : Int)), WG p l e { frames := 2, cells := 0, slots := 0, locals := 42 } s m ([.ref x] : List Value).toArray below meth c 3 0 0 (MQ below (Qi_ D cy L κ ln R (fun r I2 J2 => Iw L κ R ow I2 ∧ Fq L κ ow [1200] I I2 ∧ Fq L κ ow [] J J2 ∧ Rg (-1) 6 r)) ([.ref x] : List Value).toArray s 0 0 (Al_ L)) D cy (Al_ L) s.heap L κ ln R I_21 J_22 53 [(0, .ref x), (1, .int v_26), (2, .int v_27)] [] := by
        intro I_21 J_22 hU_23 hF_24 hG_25 v_26 rv_26 v_27 rv_27 q_28 hm_29
        refine g_iload_n C 2 dX12_hungriest_53 rfl rfl ?_
        refine g_istore_n C dX12_hungriest_54 rfl (by decide) (lo2 := [(1, .int v_27), (0, .ref x), (2, .int v_27)]) rfl ?_
        refine g_lo (is := [1, 0, 2]) (lo2 := [(0, .ref x), (1, .int v_27), (2, .int v_27)]) rfl ?_
        exact j_55 I_21 J_22 hU_23 hF_24 hG_25 v_27 (rg_w rv_27 (by decide) (by decide)) v_27 (rv_27) q_28 hm_29
      refine g_iload_n C 2 dX12_hungriest_9 rfl rfl ?_
      refine g_aload_n C 0 dX12_hungriest_10 rfl rfl ?_
      refine g_getR C K hLx hkx f_12_13 hb_1 dX12_hungriest_11 ?_
      refine g_iconst C (v := 0) dX12_hungriest_14 (by decide) ?_
      obtain ⟨x_30, hx_30, rx_30⟩ := ex_getw (I := I_2) (a := b_1) (j := 0) (lo := 0) (hi := 7) hU_4.1 hb_1L (ro_a hb_1k (by decide) hb_1o hkx rfl) (by decide)
      refine h_iald C K hb_1L hb_1k (v := x_30) (0) (by decide) (by decide) (by rw [hb_1n]; decide) hx_30 dX12_hungriest_15 ?_
      refine g_icmp_ge C (tgt := 61) dX12_hungriest_16 (by decide) (fun h_31 => ?_) (fun h_31 => ?_)
      · skip
        refine g_iload_n C 1 dX12_hungriest_61 rfl rfl ?_
        exact g_zret (ty := .int) (r := v_7) B K rfl (rfl) ⟨hU_4, hF_5, hG_6, rv_7⟩ dX12_hungriest_62
      · skip
        have r_32 := lt_l (hi := 6) (nle h_31) rv_8 rx_30 (by decide)
        have r_33 := lt_r (lo := 1) (nle h_31) rv_8 rx_30 (by decide)
        refine g_aload_n C 0 dX12_hungriest_19 rfl rfl ?_
        refine g_iload_n C 2 dX12_hungriest_20 rfl rfl ?_
        refine g_callVI C K (c_X12_isDead W9 hLx hkx v_8 (r_32) hU_4) hLx hkx (by decide) rfl v_12_244 rfl ⟨rfl, rfl⟩ ⟨Nat.le_of_ble_eq_true rfl, Nat.le_of_ble_eq_true rfl⟩ (Nat.le_of_ble_eq_true rfl) ⟨Nat.le_of_ble_eq_true rfl, Nat.le_of_ble_eq_true rfl⟩ dX12_hungriest_21 rfl (st := []) (fun x_34 I_35 J_36 h_37 => ?_)
        obtain ⟨rfl, rfl, rx_34⟩ := h_37
        refine g_if_ne C (tgt := 55) dX12_hungriest_24 (by decide) (fun h_38 => ?_) (fun h_38 => ?_)
        · skip
          have n_39 : ¬ x_34 = 0 := h_38
          have r_40 := ne_lo (lo := 1) n_39 rx_34 rc_0 rfl (by decide)
          refine g_lo (is := [0, 1, 2]) (lo2 := [(0, .ref x), (1, .int v_7), (2, .int v_8)]) rfl ?_
          exact j_55 I_2 J_3 hU_4 hF_5 hG_6 v_7 (rv_7) v_8 (r_32) q_9 hm_10
        · skip
          have r_41 := (⟨(rx_34).1, (eq_rg (h_38) rc_0).2⟩ : Rg 0 0 x_34)
          refine g_iload_n C 1 dX12_hungriest_27 rfl rfl ?_
          refine g_iconst C (v := (-1)) dX12_hungriest_28 (by decide) ?_
          refine g_icmp_eq C (tgt := 53) dX12_hungriest_29 (by decide) (fun h_42 => ?_) (fun h_42 => ?_)
          · skip
            have r_43 := (⟨(rv_7).1, (eq_rg (h_42) rc_m1).2⟩ : Rg (-1) (-1) v_7)
            refine g_lo (is := [0, 1, 2]) (lo2 := [(0, .ref x), (1, .int v_7), (2, .int v_8)]) rfl ?_
            exact j_53 I_2 J_3 hU_4 hF_5 hG_6 v_7 (rg_w r_43 (by decide) (by decide)) v_8 (r_32) q_9 hm_10
          · skip
            have n_44 : ¬ v_7 = (-1) := h_42
            have r_45 := ne_lo (lo := 0) n_44 rv_7 rc_m1 rfl (by decide)
            refine g_aload_n C 0 dX12_hungriest_32 rfl rfl ?_
            refine g_getR C K hLx hkx f_12_13 hb_1 dX12_hungriest_33 ?_
            refine g_bipush C (v := 98) dX12_hungriest_36 (by decide) ?_
            refine g_iload_n C 2 dX12_hungriest_38 rfl rfl ?_
            obtain ⟨x_46, hx_46, rx_46, tx_46⟩ := ex_add 98 104 rc_98 r_32 (by decide) (by decide) (by decide) (by decide)
            refine g_iadd C (v := x_46) dX12_hungriest_39 hx_46 ?_
            obtain ⟨x_47, hx_47, rx_47⟩ := ex_any (z0 := I_2 b_1 (x_46.toNatClampNeg))
            refine h_iald C K hb_1L hb_1k (v := x_47) (x_46.toNatClampNeg) (rfl) (ix_0 rx_46 (by decide)) (ix_lt rx_46 (by decide) hb_1n (by decide)) hx_47 dX12_hungriest_40 ?_
            refine g_aload_n C 0 dX12_hungriest_41 rfl rfl ?_
            refine g_getR C K hLx hkx f_12_13 hb_1 dX12_hungriest_42 ?_
            refine g_bipush C (v := 98) dX12_hungriest_45 (by decide) ?_
            refine g_iload_n C 1 dX12_hungriest_47 rfl rfl ?_
            obtain ⟨x_48, hx_48, rx_48, tx_48⟩ := ex_add 98 104 rc_98 r_45 (by decide) (by decide) (by decide) (by decide)
            refine g_iadd C (v := x_48) dX12_hungriest_48 hx_48 ?_
            obtain ⟨x_49, hx_49, rx_49⟩ := ex_any (z0 := I_2 b_1 (x_48.toNatClampNeg))
            refine h_iald C K hb_1L hb_1k (v := x_49) (x_48.toNatClampNeg) (rfl) (ix_0 rx_48 (by decide)) (ix_lt rx_48 (by decide) hb_1n (by decide)) hx_49 dX12_hungriest_49 ?_
            refine g_icmp_le C (tgt := 55) dX12_hungriest_50 (by decide) (fun h_50 => ?_) (fun h_50 => ?_)
            · skip
              refine g_lo (is := [0, 1, 2]) (lo2 := [(0, .ref x), (1, .int v_7), (2, .int v_8)]) rfl ?_
              exact j_55 I_2 J_3 hU_4 hF_5 hG_6 v_7 (rg_w r_45 (by decide) (by decide)) v_8 (r_32) q_9 hm_10
            · skip
              have r_51 := lt_l (hi := 2147483646) (nle h_50) rx_49 rx_47 (by decide)
              have r_52 := lt_r (lo := (-2147483647)) (nle h_50) rx_49 rx_47 (by decide)
              refine g_lo (is := [0, 1, 2]) (lo2 := [(0, .ref x), (1, .int v_7), (2, .int v_8)]) rfl ?_
              exact j_53 I_2 J_3 hU_4 hF_5 hG_6 v_7 (rg_w r_45 (by decide) (by decide)) v_8 (r_32) q_9 hm_10
  refine g_aload_n C 0 dX12_hungriest_0 rfl rfl ?_
  refine g_iconst C (v := 0) dX12_hungriest_1 (by decide) ?_
  refine h_putI C K hLx hkx f_12_82 p_12_0 dX12_hungriest_2 (fun I_53 hI_53 => ?_)
  have hU_54 := iw_put W9 hU hI_53 (ro_o hkx (by decide)) (lo := (-2147483648)) (hi := 2147483647) (rfl) (rg_all _) rfl
  have hF_55 := fq_puto hF hI_53 hkx (by decide) (by decide)
  refine g_iconst C (v := (-1)) dX12_hungriest_5 (by decide) ?_
  refine g_istore_n C dX12_hungriest_6 rfl (by decide) (lo2 := [(1, .int (-1)), (0, .ref x)]) rfl ?_
  refine g_iconst C (v := 0) dX12_hungriest_7 (by decide) ?_
  refine g_istore_n C dX12_hungriest_8 rfl (by decide) (lo2 := [(2, .int 0), (1, .int (-1)), (0, .ref x)]) rfl ?_
  refine g_lo (is := [2, 1, 0]) (lo2 := [(0, .ref x), (1, .int (-1)), (2, .int 0)]) rfl ?_
  exact l_9 8 I_53 J hU_54 hF_55 hG (-1) (rg_w rc_m1 (by decide) (by decide)) 0 (rg_w rc_0 (by decide) (by decide)) (kp_s hI_53) (ms_s (a := 0) (b := 7) (N := 8) (rg_w rc_0 (by decide) (by decide)) (by decide))
set_option maxRecDepth 100000 in
set_option maxHeartbeats 8000000 in
theorem c_X12_write {l : Launch} {D : va_G} {cy : Nat → ClassId} {L : List Nat} {κ ln : Nat → Nat} {R : Nat → Nat → Option Nat} {I : Nat → Nat → Int32} {J : Nat → Nat → Int64} {ow : Nat → Nat × Nat} (W9 : ∀ a ∈ L, Shp L κ ln R ow a) {x : Nat} (hLx : x ∈ L) (hkx : κ x = 12) (a0 : Int32) (hU : Iw L κ R ow I) (hp0 : Rg 0 63 (I x 40)) : CtV l yX12_write cX12_write 2 none { frames := 0, cells := 0, slots := 0, locals := 0 } D cy L κ ln R I J [.ref x, .int a0] (fun I2 J2 => Iw L κ R ow I2 ∧ Fq L κ ow [1240, 85900] I I2 ∧ Fq L κ ow [] J J2 ∧ ((I x 40).toInt + 1 ≤ (I2 x 40).toInt ∧ (I2 x 40).toInt ≤ (I x 40).toInt + 1)) := by
  refine CtV.of (by decide +kernel) (Nat.le_of_ble_eq_true rfl) ?_
  intro p e s m below meth c B K
  have C := B.1
  have hF : Fq L κ ow [1240, 85900] I I := fq_rf
  have hG : Fq L κ ow [] J J := fq_rf
  obtain ⟨xp0, hxp0, rxp0⟩ : ∃ z, I x 40 = z ∧ Rg 0 63 z := ⟨_, rfl, hp0⟩
  obtain ⟨b_1, hb_1, hb_1L, hb_1k, hb_1n, hb_1o⟩ := shp_a (W9 x hLx) hkx 39 14 64 rfl (by decide)
  refine g_lo (is := [0, 1]) (lo2 := [(0, .ref x), (1, .int a0)]) rfl ?_
  refine g_aload_n C 0 dX12_write_0 rfl rfl ?_
  refine g_getR C K hLx hkx f_12_70 hb_1 dX12_write_1 ?_
  refine g_aload_n C 0 dX12_write_4 rfl rfl ?_
  refine g_getI C K hLx hkx f_12_335 (v := xp0) hxp0 dX12_write_5 ?_
  refine g_iload_n C 1 dX12_write_8 rfl rfl ?_
  refine h_iast C K hb_1L hb_1k (xp0.toNatClampNeg) (rfl) (ix_0 rxp0 (by decide)) (ix_lt rxp0 (by decide) hb_1n (by decide)) dX12_write_9 (fun I_2 hI_2 => ?_)
  have hU_3 := iw_put W9 hU hI_2 (ro_a hb_1k (by decide) hb_1o hkx rfl) (lo := (-2147483648)) (hi := 2147483647) (rfl) ((rg_all a0)) rfl
  have hF_4 := fq_puta hF hI_2 (ro_a hb_1k (by decide) hb_1o hkx rfl) (by decide) (by decide)
  refine g_aload_n C 0 dX12_write_10 rfl rfl ?_
  refine g_dup C dX12_write_11 rfl ?_
  refine g_getI C K hLx hkx f_12_335 (v := xp0) (kp_k (κ := κ) hI_2 (by rw [hkx, hb_1k]; decide) hxp0) dX12_write_12 ?_
  refine g_iconst C (v := 1) dX12_write_15 (by decide) ?_
  obtain ⟨x_5, hx_5, rx_5, tx_5⟩ := ex_add 1 64 rxp0 rc_1 (by decide) (by decide) (by decide) (by decide)
  refine g_iadd C (v := x_5) dX12_write_16 hx_5 ?_
  refine h_putI C K hLx hkx f_12_335 p_12_40 dX12_write_17 (fun I_6 hI_6 => ?_)
  have hU_7 := iw_put W9 hU_3 hI_6 (ro_o hkx (by decide)) (lo := 0) (hi := 64) (rfl) (rg_w rx_5 (by decide) (by decide)) rfl
  have hF_8 := fq_puto hF_4 hI_6 hkx (by decide) (by decide)
  exact g_vret B K rfl ⟨hU_7, hF_8, hG, (tx_m hxp0 (kp_s hI_6) ⟨by have := (ti_k tx_5 rc_1); omega, by have := (ti_k tx_5 rc_1); omega⟩)⟩ dX12_write_20
set_option maxRecDepth 100000 in
set_option maxHeartbeats 8000000 in
theorem c_X12_writeWord_1 {l : Launch} {D : va_G} {cy : Nat → ClassId} {L : List Nat} {κ ln : Nat → Nat} {R : Nat → Nat → Option Nat} {I : Nat → Nat → Int32} {J : Nat → Nat → Int64} {ow : Nat → Nat × Nat} (W9 : ∀ a ∈ L, Shp L κ ln R ow a) {x : Nat} (hLx : x ∈ L) (hkx : κ x = 12) (a0 : Int64) (hU : Iw L κ R ow I) (hp0 : Rg 0 63 (I x 40)) (hw : a0.toInt < (27 : Int)) : CtV l yX12_writeWord cX12_writeWord 3 none { frames := 1, cells := 0, slots := 0, locals := 21 } D cy L κ ln R I J [.ref x, .long a0] (fun I2 J2 => Iw L κ R ow I2 ∧ Fq L κ ow [1240, 85900] I I2 ∧ Fq L κ ow [] J J2 ∧ ((I x 40).toInt + 1 ≤ (I2 x 40).toInt ∧ (I2 x 40).toInt ≤ (I x 40).toInt + 1)) := by
  refine CtV.of (by decide +kernel) (Nat.le_of_ble_eq_true rfl) ?_
  intro p e s m below meth c B K
  have C := B.1
  have hF : Fq L κ ow [1240, 85900] I I := fq_rf
  have hG : Fq L κ ow [] J J := fq_rf
  obtain ⟨xp0, hxp0, rxp0⟩ : ∃ z, I x 40 = z ∧ Rg 0 63 z := ⟨_, rfl, hp0⟩
  refine g_lo (is := [0, 1]) (lo2 := [(0, .ref x), (1, .long a0)]) rfl ?_
  refine g_lload_n C 1 dX12_writeWord_0 rfl rfl ?_
  refine g_ldc2 C kl_128 dX12_writeWord_1 ?_
  refine g_lcmpO C dX12_writeWord_4 (fun x_1 rx_1 qx_1 => ?_)
  refine g_if_lt C (tgt := 17) dX12_writeWord_5 (by decide) (fun h_2 => ?_) (fun h_2 => ?_)
  · skip
    have r_3 := lt_l (hi := (-1)) (h_2) rx_1 rc_0 (by decide)
    refine g_aload_n C 0 dX12_writeWord_17 rfl rfl ?_
    refine g_bipush C (v := 96) dX12_writeWord_18 (by decide) ?_
    refine g_lload_n C 1 dX12_writeWord_20 rfl rfl ?_
    refine g_ldc2 C kl_128 dX12_writeWord_21 ?_
    refine g_lrem C dX12_writeWord_24 (by decide) (fun y_4 => ?_)
    obtain ⟨x_5, hx_5, rx_5⟩ := ex_any (z0 := Int64.toInt32 y_4)
    refine g_l2i C (v := x_5) dX12_writeWord_25 hx_5 ?_
    obtain ⟨x_6, hx_6, rx_6⟩ := ex_any (z0 := 96 + x_5)
    refine g_iadd C (v := x_6) dX12_writeWord_26 hx_6 ?_
    refine g_callVV C K (c_X12_write W9 hLx hkx x_6  hU  (eq_rg hxp0 (rxp0))) hLx hkx (by decide) rfl v_12_342 rfl ⟨rfl, rfl⟩ ⟨Nat.le_of_ble_eq_true rfl, Nat.le_of_ble_eq_true rfl⟩ (Nat.le_of_ble_eq_true rfl) ⟨Nat.le_of_ble_eq_true rfl, Nat.le_of_ble_eq_true rfl⟩ dX12_writeWord_27 rfl (st := []) (fun I_8 J_9 h_10 => ?_)
    obtain ⟨hUI_8, hFI_8, hGJ_9, ex_7⟩ := h_10
    have hF_11 := fq_tr hF hFI_8 (by decide)
    have hG_12 := fq_tr hG hGJ_9 (by decide)
    obtain ⟨x_13, hx_13, rx_13, tx_13, ux_13⟩ := tx_b (lo := 1) (hi := 64) ex_7 hxp0 rxp0 (by decide) (by decide)
    exact g_vret B K rfl ⟨hUI_8, hF_11, hG_12, (tx_m hxp0 hx_13 ⟨by omega, by omega⟩)⟩ dX12_writeWord_30
  · skip
    have r_14 := le_r (nlt h_2) rc_0 rx_1
    exact absurd (qx_1 (nlt h_2)) (by rw [show (27 : Int64).toInt = 27 from by decide]; omega)
set_option maxRecDepth 100000 in
set_option maxHeartbeats 8000000 in
theorem c_X12_writeWord_2 {l : Launch} {D : va_G} {cy : Nat → ClassId} {L : List Nat} {κ ln : Nat → Nat} {R : Nat → Nat → Option Nat} {I : Nat → Nat → Int32} {J : Nat → Nat → Int64} {ow : Nat → Nat × Nat} (W9 : ∀ a ∈ L, Shp L κ ln R ow a) {x : Nat} (hLx : x ∈ L) (hkx : κ x = 12) (a0 : Int64) (hU : Iw L κ R ow I) (hp0 : Rg 0 62 (I x 40)) (hw : a0.toInt < (729 : Int)) : CtV l yX12_writeWord cX12_writeWord 3 none { frames := 2, cells := 0, slots := 0, locals := 43 } D cy L κ ln R I J [.ref x, .long a0] (fun I2 J2 => Iw L κ R ow I2 ∧ Fq L κ ow [1240, 85900] I I2 ∧ Fq L κ ow [] J J2 ∧ ((I x 40).toInt + 1 ≤ (I2 x 40).toInt ∧ (I2 x 40).toInt ≤ (I x 40).toInt + 2)) := by
  refine CtV.of (by decide +kernel) (Nat.le_of_ble_eq_true rfl) ?_
  intro p e s m below meth c B K
  have C := B.1
  have hF : Fq L κ ow [1240, 85900] I I := fq_rf
  have hG : Fq L κ ow [] J J := fq_rf
  obtain ⟨xp0, hxp0, rxp0⟩ : ∃ z, I x 40 = z ∧ Rg 0 62 z := ⟨_, rfl, hp0⟩
  refine g_lo (is := [0, 1]) (lo2 := [(0, .ref x), (1, .long a0)]) rfl ?_
  refine g_lload_n C 1 dX12_writeWord_0 rfl rfl ?_
  refine g_ldc2 C kl_128 dX12_writeWord_1 ?_
  refine g_lcmpO C dX12_writeWord_4 (fun x_1 rx_1 qx_1 => ?_)
  refine g_if_lt C (tgt := 17) dX12_writeWord_5 (by decide) (fun h_2 => ?_) (fun h_2 => ?_)
  · skip
    have r_3 := lt_l (hi := (-1)) (h_2) rx_1 rc_0 (by decide)
    refine g_aload_n C 0 dX12_writeWord_17 rfl rfl ?_
    refine g_bipush C (v := 96) dX12_writeWord_18 (by decide) ?_
    refine g_lload_n C 1 dX12_writeWord_20 rfl rfl ?_
    refine g_ldc2 C kl_128 dX12_writeWord_21 ?_
    refine g_lrem C dX12_writeWord_24 (by decide) (fun y_4 => ?_)
    obtain ⟨x_5, hx_5, rx_5⟩ := ex_any (z0 := Int64.toInt32 y_4)
    refine g_l2i C (v := x_5) dX12_writeWord_25 hx_5 ?_
    obtain ⟨x_6, hx_6, rx_6⟩ := ex_any (z0 := 96 + x_5)
    refine g_iadd C (v := x_6) dX12_writeWord_26 hx_6 ?_
    refine g_callVV C K (c_X12_write W9 hLx hkx x_6  hU  (eq_rg hxp0 (rg_w rxp0 (by decide) (by decide)))) hLx hkx (by decide) rfl v_12_342 rfl ⟨rfl, rfl⟩ ⟨Nat.le_of_ble_eq_true rfl, Nat.le_of_ble_eq_true rfl⟩ (Nat.le_of_ble_eq_true rfl) ⟨Nat.le_of_ble_eq_true rfl, Nat.le_of_ble_eq_true rfl⟩ dX12_writeWord_27 rfl (st := []) (fun I_8 J_9 h_10 => ?_)
    obtain ⟨hUI_8, hFI_8, hGJ_9, ex_7⟩ := h_10
    have hF_11 := fq_tr hF hFI_8 (by decide)
    have hG_12 := fq_tr hG hGJ_9 (by decide)
    obtain ⟨x_13, hx_13, rx_13, tx_13, ux_13⟩ := tx_b (lo := 1) (hi := 63) ex_7 hxp0 rxp0 (by decide) (by decide)
    exact g_vret B K rfl ⟨hUI_8, hF_11, hG_12, (tx_m hxp0 hx_13 ⟨by omega, by omega⟩)⟩ dX12_writeWord_30
  · skip
    have r_14 := le_r (nlt h_2) rc_0 rx_1
    refine g_aload_n C 0 dX12_writeWord_8 rfl rfl ?_
    refine g_lload_n C 1 dX12_writeWord_9 rfl rfl ?_
    refine g_ldc2 C kl_128 dX12_writeWord_10 ?_
    obtain ⟨y_15, hy_15⟩ : ∃ z, a0 / 27 = z := ⟨_, rfl⟩
    refine g_ldivE C (v := y_15) dX12_writeWord_13 (by decide) hy_15 ?_
    refine g_callVV C K (c_X12_writeWord_1 W9 hLx hkx y_15  hU  (eq_rg hxp0 (rg_w rxp0 (by decide) (by decide))) (ld_27 (k := 729) (qx_1 (nlt h_2)) hy_15 hw (by decide))) hLx hkx (by decide) rfl v_12_338 rfl ⟨rfl, rfl⟩ ⟨Nat.le_of_ble_eq_true rfl, Nat.le_of_ble_eq_true rfl⟩ (Nat.le_of_ble_eq_true rfl) ⟨Nat.le_of_ble_eq_true rfl, Nat.le_of_ble_eq_true rfl⟩ dX12_writeWord_14 rfl (st := []) (fun I_17 J_18 h_19 => ?_)
    obtain ⟨hUI_17, hFI_17, hGJ_18, ex_16⟩ := h_19
    have hF_20 := fq_tr hF hFI_17 (by decide)
    have hG_21 := fq_tr hG hGJ_18 (by decide)
    obtain ⟨x_22, hx_22, rx_22, tx_22, ux_22⟩ := tx_b (lo := 1) (hi := 63) ex_16 hxp0 rxp0 (by decide) (by decide)
    refine g_aload_n C 0 dX12_writeWord_17 rfl rfl ?_
    refine g_bipush C (v := 96) dX12_writeWord_18 (by decide) ?_
    refine g_lload_n C 1 dX12_writeWord_20 rfl rfl ?_
    refine g_ldc2 C kl_128 dX12_writeWord_21 ?_
    refine g_lrem C dX12_writeWord_24 (by decide) (fun y_23 => ?_)
    obtain ⟨x_24, hx_24, rx_24⟩ := ex_any (z0 := Int64.toInt32 y_23)
    refine g_l2i C (v := x_24) dX12_writeWord_25 hx_24 ?_
    obtain ⟨x_25, hx_25, rx_25⟩ := ex_any (z0 := 96 + x_24)
    refine g_iadd C (v := x_25) dX12_writeWord_26 hx_25 ?_
    refine g_callVV C K (c_X12_write W9 hLx hkx x_25  hUI_17  (eq_rg hx_22 (rg_w rx_22 (by decide) (by decide)))) hLx hkx (by decide) rfl v_12_342 rfl ⟨rfl, rfl⟩ ⟨Nat.le_of_ble_eq_true rfl, Nat.le_of_ble_eq_true rfl⟩ (Nat.le_of_ble_eq_true rfl) ⟨Nat.le_of_ble_eq_true rfl, Nat.le_of_ble_eq_true rfl⟩ dX12_writeWord_27 rfl (st := []) (fun I_27 J_28 h_29 => ?_)
    obtain ⟨hUI_27, hFI_27, hGJ_28, ex_26⟩ := h_29
    have hF_30 := fq_tr hF_20 hFI_27 (by decide)
    have hG_31 := fq_tr hG_21 hGJ_28 (by decide)
    obtain ⟨x_32, hx_32, rx_32, tx_32, ux_32⟩ := tx_b (lo := 2) (hi := 64) ex_26 hx_22 rx_22 (by decide) (by decide)
    exact g_vret B K rfl ⟨hUI_27, hF_30, hG_31, (tx_m hxp0 hx_32 ⟨by omega, by omega⟩)⟩ dX12_writeWord_30
set_option maxRecDepth 100000 in
set_option maxHeartbeats 8000000 in
theorem c_X12_writeWord_3 {l : Launch} {D : va_G} {cy : Nat → ClassId} {L : List Nat} {κ ln : Nat → Nat} {R : Nat → Nat → Option Nat} {I : Nat → Nat → Int32} {J : Nat → Nat → Int64} {ow : Nat → Nat × Nat} (W9 : ∀ a ∈ L, Shp L κ ln R ow a) {x : Nat} (hLx : x ∈ L) (hkx : κ x = 12) (a0 : Int64) (hU : Iw L κ R ow I) (hp0 : Rg 0 61 (I x 40)) (hw : a0.toInt < (19683 : Int)) : CtV l yX12_writeWord cX12_writeWord 3 none { frames := 3, cells := 0, slots := 0, locals := 65 } D cy L κ ln R I J [.ref x, .long a0] (fun I2 J2 => Iw L κ R ow I2 ∧ Fq L κ ow [1240, 85900] I I2 ∧ Fq L κ ow [] J J2 ∧ ((I x 40).toInt + 1 ≤ (I2 x 40).toInt ∧ (I2 x 40).toInt ≤ (I x 40).toInt + 3)) := by
  refine CtV.of (by decide +kernel) (Nat.le_of_ble_eq_true rfl) ?_
  intro p e s m below meth c B K
  have C := B.1
  have hF : Fq L κ ow [1240, 85900] I I := fq_rf
  have hG : Fq L κ ow [] J J := fq_rf
  obtain ⟨xp0, hxp0, rxp0⟩ : ∃ z, I x 40 = z ∧ Rg 0 61 z := ⟨_, rfl, hp0⟩
  refine g_lo (is := [0, 1]) (lo2 := [(0, .ref x), (1, .long a0)]) rfl ?_
  refine g_lload_n C 1 dX12_writeWord_0 rfl rfl ?_
  refine g_ldc2 C kl_128 dX12_writeWord_1 ?_
  refine g_lcmpO C dX12_writeWord_4 (fun x_1 rx_1 qx_1 => ?_)
  refine g_if_lt C (tgt := 17) dX12_writeWord_5 (by decide) (fun h_2 => ?_) (fun h_2 => ?_)
  · skip
    have r_3 := lt_l (hi := (-1)) (h_2) rx_1 rc_0 (by decide)
    refine g_aload_n C 0 dX12_writeWord_17 rfl rfl ?_
    refine g_bipush C (v := 96) dX12_writeWord_18 (by decide) ?_
    refine g_lload_n C 1 dX12_writeWord_20 rfl rfl ?_
    refine g_ldc2 C kl_128 dX12_writeWord_21 ?_
    refine g_lrem C dX12_writeWord_24 (by decide) (fun y_4 => ?_)
    obtain ⟨x_5, hx_5, rx_5⟩ := ex_any (z0 := Int64.toInt32 y_4)
    refine g_l2i C (v := x_5) dX12_writeWord_25 hx_5 ?_
    obtain ⟨x_6, hx_6, rx_6⟩ := ex_any (z0 := 96 + x_5)
    refine g_iadd C (v := x_6) dX12_writeWord_26 hx_6 ?_
    refine g_callVV C K (c_X12_write W9 hLx hkx x_6  hU  (eq_rg hxp0 (rg_w rxp0 (by decide) (by decide)))) hLx hkx (by decide) rfl v_12_342 rfl ⟨rfl, rfl⟩ ⟨Nat.le_of_ble_eq_true rfl, Nat.le_of_ble_eq_true rfl⟩ (Nat.le_of_ble_eq_true rfl) ⟨Nat.le_of_ble_eq_true rfl, Nat.le_of_ble_eq_true rfl⟩ dX12_writeWord_27 rfl (st := []) (fun I_8 J_9 h_10 => ?_)
    obtain ⟨hUI_8, hFI_8, hGJ_9, ex_7⟩ := h_10
    have hF_11 := fq_tr hF hFI_8 (by decide)
    have hG_12 := fq_tr hG hGJ_9 (by decide)
    obtain ⟨x_13, hx_13, rx_13, tx_13, ux_13⟩ := tx_b (lo := 1) (hi := 62) ex_7 hxp0 rxp0 (by decide) (by decide)
    exact g_vret B K rfl ⟨hUI_8, hF_11, hG_12, (tx_m hxp0 hx_13 ⟨by omega, by omega⟩)⟩ dX12_writeWord_30
  · skip
    have r_14 := le_r (nlt h_2) rc_0 rx_1
    refine g_aload_n C 0 dX12_writeWord_8 rfl rfl ?_
    refine g_lload_n C 1 dX12_writeWord_9 rfl rfl ?_
    refine g_ldc2 C kl_128 dX12_writeWord_10 ?_
    obtain ⟨y_15, hy_15⟩ : ∃ z, a0 / 27 = z := ⟨_, rfl⟩
    refine g_ldivE C (v := y_15) dX12_writeWord_13 (by decide) hy_15 ?_
    refine g_callVV C K (c_X12_writeWord_2 W9 hLx hkx y_15  hU  (eq_rg hxp0 (rg_w rxp0 (by decide) (by decide))) (ld_27 (k := 19683) (qx_1 (nlt h_2)) hy_15 hw (by decide))) hLx hkx (by decide) rfl v_12_338 rfl ⟨rfl, rfl⟩ ⟨Nat.le_of_ble_eq_true rfl, Nat.le_of_ble_eq_true rfl⟩ (Nat.le_of_ble_eq_true rfl) ⟨Nat.le_of_ble_eq_true rfl, Nat.le_of_ble_eq_true rfl⟩ dX12_writeWord_14 rfl (st := []) (fun I_17 J_18 h_19 => ?_)
    obtain ⟨hUI_17, hFI_17, hGJ_18, ex_16⟩ := h_19
    have hF_20 := fq_tr hF hFI_17 (by decide)
    have hG_21 := fq_tr hG hGJ_18 (by decide)
    obtain ⟨x_22, hx_22, rx_22, tx_22, ux_22⟩ := tx_b (lo := 1) (hi := 63) ex_16 hxp0 rxp0 (by decide) (by decide)
    refine g_aload_n C 0 dX12_writeWord_17 rfl rfl ?_
    refine g_bipush C (v := 96) dX12_writeWord_18 (by decide) ?_
    refine g_lload_n C 1 dX12_writeWord_20 rfl rfl ?_
    refine g_ldc2 C kl_128 dX12_writeWord_21 ?_
    refine g_lrem C dX12_writeWord_24 (by decide) (fun y_23 => ?_)
    obtain ⟨x_24, hx_24, rx_24⟩ := ex_any (z0 := Int64.toInt32 y_23)
    refine g_l2i C (v := x_24) dX12_writeWord_25 hx_24 ?_
    obtain ⟨x_25, hx_25, rx_25⟩ := ex_any (z0 := 96 + x_24)
    refine g_iadd C (v := x_25) dX12_writeWord_26 hx_25 ?_
    refine g_callVV C K (c_X12_write W9 hLx hkx x_25  hUI_17  (eq_rg hx_22 (rg_w rx_22 (by decide) (by decide)))) hLx hkx (by decide) rfl v_12_342 rfl ⟨rfl, rfl⟩ ⟨Nat.le_of_ble_eq_true rfl, Nat.le_of_ble_eq_true rfl⟩ (Nat.le_of_ble_eq_true rfl) ⟨Nat.le_of_ble_eq_true rfl, Nat.le_of_ble_eq_true rfl⟩ dX12_writeWord_27 rfl (st := []) (fun I_27 J_28 h_29 => ?_)
    obtain ⟨hUI_27, hFI_27, hGJ_28, ex_26⟩ := h_29
    have hF_30 := fq_tr hF_20 hFI_27 (by decide)
    have hG_31 := fq_tr hG_21 hGJ_28 (by decide)
    obtain ⟨x_32, hx_32, rx_32, tx_32, ux_32⟩ := tx_b (lo := 2) (hi := 64) ex_26 hx_22 rx_22 (by decide) (by decide)
    exact g_vret B K rfl ⟨hUI_27, hF_30, hG_31, (tx_m hxp0 hx_32 ⟨by omega, by omega⟩)⟩ dX12_writeWord_30
set_option maxRecDepth 100000 in
set_option maxHeartbeats 8000000 in
theorem c_X12_writeWord_4 {l : Launch} {D : va_G} {cy : Nat → ClassId} {L : List Nat} {κ ln : Nat → Nat} {R : Nat → Nat → Option Nat} {I : Nat → Nat → Int32} {J : Nat → Nat → Int64} {ow : Nat → Nat × Nat} (W9 : ∀ a ∈ L, Shp L κ ln R ow a) {x : Nat} (hLx : x ∈ L) (hkx : κ x = 12) (a0 : Int64) (hU : Iw L κ R ow I) (hp0 : Rg 0 60 (I x 40)) (hw : a0.toInt < (531441 : Int)) : CtV l yX12_writeWord cX12_writeWord 3 none { frames := 4, cells := 0, slots := 0, locals := 87 } D cy L κ ln R I J [.ref x, .long a0] (fun I2 J2 => Iw L κ R ow I2 ∧ Fq L κ ow [1240, 85900] I I2 ∧ Fq L κ ow [] J J2 ∧ ((I x 40).toInt + 1 ≤ (I2 x 40).toInt ∧ (I2 x 40).toInt ≤ (I x 40).toInt + 4)) := by
  refine CtV.of (by decide +kernel) (Nat.le_of_ble_eq_true rfl) ?_
  intro p e s m below meth c B K
  have C := B.1
  have hF : Fq L κ ow [1240, 85900] I I := fq_rf
  have hG : Fq L κ ow [] J J := fq_rf
  obtain ⟨xp0, hxp0, rxp0⟩ : ∃ z, I x 40 = z ∧ Rg 0 60 z := ⟨_, rfl, hp0⟩
  refine g_lo (is := [0, 1]) (lo2 := [(0, .ref x), (1, .long a0)]) rfl ?_
  refine g_lload_n C 1 dX12_writeWord_0 rfl rfl ?_
  refine g_ldc2 C kl_128 dX12_writeWord_1 ?_
  refine g_lcmpO C dX12_writeWord_4 (fun x_1 rx_1 qx_1 => ?_)
  refine g_if_lt C (tgt := 17) dX12_writeWord_5 (by decide) (fun h_2 => ?_) (fun h_2 => ?_)
  · skip
    have r_3 := lt_l (hi := (-1)) (h_2) rx_1 rc_0 (by decide)
    refine g_aload_n C 0 dX12_writeWord_17 rfl rfl ?_
    refine g_bipush C (v := 96) dX12_writeWord_18 (by decide) ?_
    refine g_lload_n C 1 dX12_writeWord_20 rfl rfl ?_
    refine g_ldc2 C kl_128 dX12_writeWord_21 ?_
    refine g_lrem C dX12_writeWord_24 (by decide) (fun y_4 => ?_)
    obtain ⟨x_5, hx_5, rx_5⟩ := ex_any (z0 := Int64.toInt32 y_4)
    refine g_l2i C (v := x_5) dX12_writeWord_25 hx_5 ?_
    obtain ⟨x_6, hx_6, rx_6⟩ := ex_any (z0 := 96 + x_5)
    refine g_iadd C (v := x_6) dX12_writeWord_26 hx_6 ?_
    refine g_callVV C K (c_X12_write W9 hLx hkx x_6  hU  (eq_rg hxp0 (rg_w rxp0 (by decide) (by decide)))) hLx hkx (by decide) rfl v_12_342 rfl ⟨rfl, rfl⟩ ⟨Nat.le_of_ble_eq_true rfl, Nat.le_of_ble_eq_true rfl⟩ (Nat.le_of_ble_eq_true rfl) ⟨Nat.le_of_ble_eq_true rfl, Nat.le_of_ble_eq_true rfl⟩ dX12_writeWord_27 rfl (st := []) (fun I_8 J_9 h_10 => ?_)
    obtain ⟨hUI_8, hFI_8, hGJ_9, ex_7⟩ := h_10
    have hF_11 := fq_tr hF hFI_8 (by decide)
    have hG_12 := fq_tr hG hGJ_9 (by decide)
    obtain ⟨x_13, hx_13, rx_13, tx_13, ux_13⟩ := tx_b (lo := 1) (hi := 61) ex_7 hxp0 rxp0 (by decide) (by decide)
    exact g_vret B K rfl ⟨hUI_8, hF_11, hG_12, (tx_m hxp0 hx_13 ⟨by omega, by omega⟩)⟩ dX12_writeWord_30
  · skip
    have r_14 := le_r (nlt h_2) rc_0 rx_1
    refine g_aload_n C 0 dX12_writeWord_8 rfl rfl ?_
    refine g_lload_n C 1 dX12_writeWord_9 rfl rfl ?_
    refine g_ldc2 C kl_128 dX12_writeWord_10 ?_
    obtain ⟨y_15, hy_15⟩ : ∃ z, a0 / 27 = z := ⟨_, rfl⟩
    refine g_ldivE C (v := y_15) dX12_writeWord_13 (by decide) hy_15 ?_
    refine g_callVV C K (c_X12_writeWord_3 W9 hLx hkx y_15  hU  (eq_rg hxp0 (rg_w rxp0 (by decide) (by decide))) (ld_27 (k := 531441) (qx_1 (nlt h_2)) hy_15 hw (by decide))) hLx hkx (by decide) rfl v_12_338 rfl ⟨rfl, rfl⟩ ⟨Nat.le_of_ble_eq_true rfl, Nat.le_of_ble_eq_true rfl⟩ (Nat.le_of_ble_eq_true rfl) ⟨Nat.le_of_ble_eq_true rfl, Nat.le_of_ble_eq_true rfl⟩ dX12_writeWord_14 rfl (st := []) (fun I_17 J_18 h_19 => ?_)
    obtain ⟨hUI_17, hFI_17, hGJ_18, ex_16⟩ := h_19
    have hF_20 := fq_tr hF hFI_17 (by decide)
    have hG_21 := fq_tr hG hGJ_18 (by decide)
    obtain ⟨x_22, hx_22, rx_22, tx_22, ux_22⟩ := tx_b (lo := 1) (hi := 63) ex_16 hxp0 rxp0 (by decide) (by decide)
    refine g_aload_n C 0 dX12_writeWord_17 rfl rfl ?_
    refine g_bipush C (v := 96) dX12_writeWord_18 (by decide) ?_
    refine g_lload_n C 1 dX12_writeWord_20 rfl rfl ?_
    refine g_ldc2 C kl_128 dX12_writeWord_21 ?_
    refine g_lrem C dX12_writeWord_24 (by decide) (fun y_23 => ?_)
    obtain ⟨x_24, hx_24, rx_24⟩ := ex_any (z0 := Int64.toInt32 y_23)
    refine g_l2i C (v := x_24) dX12_writeWord_25 hx_24 ?_
    obtain ⟨x_25, hx_25, rx_25⟩ := ex_any (z0 := 96 + x_24)
    refine g_iadd C (v := x_25) dX12_writeWord_26 hx_25 ?_
    refine g_callVV C K (c_X12_write W9 hLx hkx x_25  hUI_17  (eq_rg hx_22 (rg_w rx_22 (by decide) (by decide)))) hLx hkx (by decide) rfl v_12_342 rfl ⟨rfl, rfl⟩ ⟨Nat.le_of_ble_eq_true rfl, Nat.le_of_ble_eq_true rfl⟩ (Nat.le_of_ble_eq_true rfl) ⟨Nat.le_of_ble_eq_true rfl, Nat.le_of_ble_eq_true rfl⟩ dX12_writeWord_27 rfl (st := []) (fun I_27 J_28 h_29 => ?_)
    obtain ⟨hUI_27, hFI_27, hGJ_28, ex_26⟩ := h_29
    have hF_30 := fq_tr hF_20 hFI_27 (by decide)
    have hG_31 := fq_tr hG_21 hGJ_28 (by decide)
    obtain ⟨x_32, hx_32, rx_32, tx_32, ux_32⟩ := tx_b (lo := 2) (hi := 64) ex_26 hx_22 rx_22 (by decide) (by decide)
    exact g_vret B K rfl ⟨hUI_27, hF_30, hG_31, (tx_m hxp0 hx_32 ⟨by omega, by omega⟩)⟩ dX12_writeWord_30
set_option maxRecDepth 100000 in
set_option maxHeartbeats 8000000 in
theorem c_X12_writeWord_5 {l : Launch} {D : va_G} {cy : Nat → ClassId} {L : List Nat} {κ ln : Nat → Nat} {R : Nat → Nat → Option Nat} {I : Nat → Nat → Int32} {J : Nat → Nat → Int64} {ow : Nat → Nat × Nat} (W9 : ∀ a ∈ L, Shp L κ ln R ow a) {x : Nat} (hLx : x ∈ L) (hkx : κ x = 12) (a0 : Int64) (hU : Iw L κ R ow I) (hp0 : Rg 0 59 (I x 40)) (hw : a0.toInt < (14348907 : Int)) : CtV l yX12_writeWord cX12_writeWord 3 none { frames := 5, cells := 0, slots := 0, locals := 109 } D cy L κ ln R I J [.ref x, .long a0] (fun I2 J2 => Iw L κ R ow I2 ∧ Fq L κ ow [1240, 85900] I I2 ∧ Fq L κ ow [] J J2 ∧ ((I x 40).toInt + 1 ≤ (I2 x 40).toInt ∧ (I2 x 40).toInt ≤ (I x 40).toInt + 5)) := by
  refine CtV.of (by decide +kernel) (Nat.le_of_ble_eq_true rfl) ?_
  intro p e s m below meth c B K
  have C := B.1
  have hF : Fq L κ ow [1240, 85900] I I := fq_rf
  have hG : Fq L κ ow [] J J := fq_rf
  obtain ⟨xp0, hxp0, rxp0⟩ : ∃ z, I x 40 = z ∧ Rg 0 59 z := ⟨_, rfl, hp0⟩
  refine g_lo (is := [0, 1]) (lo2 := [(0, .ref x), (1, .long a0)]) rfl ?_
  refine g_lload_n C 1 dX12_writeWord_0 rfl rfl ?_
  refine g_ldc2 C kl_128 dX12_writeWord_1 ?_
  refine g_lcmpO C dX12_writeWord_4 (fun x_1 rx_1 qx_1 => ?_)
  refine g_if_lt C (tgt := 17) dX12_writeWord_5 (by decide) (fun h_2 => ?_) (fun h_2 => ?_)
  · skip
    have r_3 := lt_l (hi := (-1)) (h_2) rx_1 rc_0 (by decide)
    refine g_aload_n C 0 dX12_writeWord_17 rfl rfl ?_
    refine g_bipush C (v := 96) dX12_writeWord_18 (by decide) ?_
    refine g_lload_n C 1 dX12_writeWord_20 rfl rfl ?_
    refine g_ldc2 C kl_128 dX12_writeWord_21 ?_
    refine g_lrem C dX12_writeWord_24 (by decide) (fun y_4 => ?_)
    obtain ⟨x_5, hx_5, rx_5⟩ := ex_any (z0 := Int64.toInt32 y_4)
    refine g_l2i C (v := x_5) dX12_writeWord_25 hx_5 ?_
    obtain ⟨x_6, hx_6, rx_6⟩ := ex_any (z0 := 96 + x_5)
    refine g_iadd C (v := x_6) dX12_writeWord_26 hx_6 ?_
    refine g_callVV C K (c_X12_write W9 hLx hkx x_6  hU  (eq_rg hxp0 (rg_w rxp0 (by decide) (by decide)))) hLx hkx (by decide) rfl v_12_342 rfl ⟨rfl, rfl⟩ ⟨Nat.le_of_ble_eq_true rfl, Nat.le_of_ble_eq_true rfl⟩ (Nat.le_of_ble_eq_true rfl) ⟨Nat.le_of_ble_eq_true rfl, Nat.le_of_ble_eq_true rfl⟩ dX12_writeWord_27 rfl (st := []) (fun I_8 J_9 h_10 => ?_)
    obtain ⟨hUI_8, hFI_8, hGJ_9, ex_7⟩ := h_10
    have hF_11 := fq_tr hF hFI_8 (by decide)
    have hG_12 := fq_tr hG hGJ_9 (by decide)
    obtain ⟨x_13, hx_13, rx_13, tx_13, ux_13⟩ := tx_b (lo := 1) (hi := 60) ex_7 hxp0 rxp0 (by decide) (by decide)
    exact g_vret B K rfl ⟨hUI_8, hF_11, hG_12, (tx_m hxp0 hx_13 ⟨by omega, by omega⟩)⟩ dX12_writeWord_30
  · skip
    have r_14 := le_r (nlt h_2) rc_0 rx_1
    refine g_aload_n C 0 dX12_writeWord_8 rfl rfl ?_
    refine g_lload_n C 1 dX12_writeWord_9 rfl rfl ?_
    refine g_ldc2 C kl_128 dX12_writeWord_10 ?_
    obtain ⟨y_15, hy_15⟩ : ∃ z, a0 / 27 = z := ⟨_, rfl⟩
    refine g_ldivE C (v := y_15) dX12_writeWord_13 (by decide) hy_15 ?_
    refine g_callVV C K (c_X12_writeWord_4 W9 hLx hkx y_15  hU  (eq_rg hxp0 (rg_w rxp0 (by decide) (by decide))) (ld_27 (k := 14348907) (qx_1 (nlt h_2)) hy_15 hw (by decide))) hLx hkx (by decide) rfl v_12_338 rfl ⟨rfl, rfl⟩ ⟨Nat.le_of_ble_eq_true rfl, Nat.le_of_ble_eq_true rfl⟩ (Nat.le_of_ble_eq_true rfl) ⟨Nat.le_of_ble_eq_true rfl, Nat.le_of_ble_eq_true rfl⟩ dX12_writeWord_14 rfl (st := []) (fun I_17 J_18 h_19 => ?_)
    obtain ⟨hUI_17, hFI_17, hGJ_18, ex_16⟩ := h_19
    have hF_20 := fq_tr hF hFI_17 (by decide)
    have hG_21 := fq_tr hG hGJ_18 (by decide)
    obtain ⟨x_22, hx_22, rx_22, tx_22, ux_22⟩ := tx_b (lo := 1) (hi := 63) ex_16 hxp0 rxp0 (by decide) (by decide)
    refine g_aload_n C 0 dX12_writeWord_17 rfl rfl ?_
    refine g_bipush C (v := 96) dX12_writeWord_18 (by decide) ?_
    refine g_lload_n C 1 dX12_writeWord_20 rfl rfl ?_
    refine g_ldc2 C kl_128 dX12_writeWord_21 ?_
    refine g_lrem C dX12_writeWord_24 (by decide) (fun y_23 => ?_)
    obtain ⟨x_24, hx_24, rx_24⟩ := ex_any (z0 := Int64.toInt32 y_23)
    refine g_l2i C (v := x_24) dX12_writeWord_25 hx_24 ?_
    obtain ⟨x_25, hx_25, rx_25⟩ := ex_any (z0 := 96 + x_24)
    refine g_iadd C (v := x_25) dX12_writeWord_26 hx_25 ?_
    refine g_callVV C K (c_X12_write W9 hLx hkx x_25  hUI_17  (eq_rg hx_22 (rg_w rx_22 (by decide) (by decide)))) hLx hkx (by decide) rfl v_12_342 rfl ⟨rfl, rfl⟩ ⟨Nat.le_of_ble_eq_true rfl, Nat.le_of_ble_eq_true rfl⟩ (Nat.le_of_ble_eq_true rfl) ⟨Nat.le_of_ble_eq_true rfl, Nat.le_of_ble_eq_true rfl⟩ dX12_writeWord_27 rfl (st := []) (fun I_27 J_28 h_29 => ?_)
    obtain ⟨hUI_27, hFI_27, hGJ_28, ex_26⟩ := h_29
    have hF_30 := fq_tr hF_20 hFI_27 (by decide)
    have hG_31 := fq_tr hG_21 hGJ_28 (by decide)
    obtain ⟨x_32, hx_32, rx_32, tx_32, ux_32⟩ := tx_b (lo := 2) (hi := 64) ex_26 hx_22 rx_22 (by decide) (by decide)
    exact g_vret B K rfl ⟨hUI_27, hF_30, hG_31, (tx_m hxp0 hx_32 ⟨by omega, by omega⟩)⟩ dX12_writeWord_30
set_option maxRecDepth 100000 in
set_option maxHeartbeats 8000000 in
theorem c_X12_writeWord_6 {l : Launch} {D : va_G} {cy : Nat → ClassId} {L : List Nat} {κ ln : Nat → Nat} {R : Nat → Nat → Option Nat} {I : Nat → Nat → Int32} {J : Nat → Nat → Int64} {ow : Nat → Nat × Nat} (W9 : ∀ a ∈ L, Shp L κ ln R ow a) {x : Nat} (hLx : x ∈ L) (hkx : κ x = 12) (a0 : Int64) (hU : Iw L κ R ow I) (hp0 : Rg 0 58 (I x 40)) (hw : a0.toInt < (387420489 : Int)) : CtV l yX12_writeWord cX12_writeWord 3 none { frames := 6, cells := 0, slots := 0, locals := 131 } D cy L κ ln R I J [.ref x, .long a0] (fun I2 J2 => Iw L κ R ow I2 ∧ Fq L κ ow [1240, 85900] I I2 ∧ Fq L κ ow [] J J2 ∧ ((I x 40).toInt + 1 ≤ (I2 x 40).toInt ∧ (I2 x 40).toInt ≤ (I x 40).toInt + 6)) := by
  refine CtV.of (by decide +kernel) (Nat.le_of_ble_eq_true rfl) ?_
  intro p e s m below meth c B K
  have C := B.1
  have hF : Fq L κ ow [1240, 85900] I I := fq_rf
  have hG : Fq L κ ow [] J J := fq_rf
  obtain ⟨xp0, hxp0, rxp0⟩ : ∃ z, I x 40 = z ∧ Rg 0 58 z := ⟨_, rfl, hp0⟩
  refine g_lo (is := [0, 1]) (lo2 := [(0, .ref x), (1, .long a0)]) rfl ?_
  refine g_lload_n C 1 dX12_writeWord_0 rfl rfl ?_
  refine g_ldc2 C kl_128 dX12_writeWord_1 ?_
  refine g_lcmpO C dX12_writeWord_4 (fun x_1 rx_1 qx_1 => ?_)
  refine g_if_lt C (tgt := 17) dX12_writeWord_5 (by decide) (fun h_2 => ?_) (fun h_2 => ?_)
  · skip
    have r_3 := lt_l (hi := (-1)) (h_2) rx_1 rc_0 (by decide)
    refine g_aload_n C 0 dX12_writeWord_17 rfl rfl ?_
    refine g_bipush C (v := 96) dX12_writeWord_18 (by decide) ?_
    refine g_lload_n C 1 dX12_writeWord_20 rfl rfl ?_
    refine g_ldc2 C kl_128 dX12_writeWord_21 ?_
    refine g_lrem C dX12_writeWord_24 (by decide) (fun y_4 => ?_)
    obtain ⟨x_5, hx_5, rx_5⟩ := ex_any (z0 := Int64.toInt32 y_4)
    refine g_l2i C (v := x_5) dX12_writeWord_25 hx_5 ?_
    obtain ⟨x_6, hx_6, rx_6⟩ := ex_any (z0 := 96 + x_5)
    refine g_iadd C (v := x_6) dX12_writeWord_26 hx_6 ?_
    refine g_callVV C K (c_X12_write W9 hLx hkx x_6  hU  (eq_rg hxp0 (rg_w rxp0 (by decide) (by decide)))) hLx hkx (by decide) rfl v_12_342 rfl ⟨rfl, rfl⟩ ⟨Nat.le_of_ble_eq_true rfl, Nat.le_of_ble_eq_true rfl⟩ (Nat.le_of_ble_eq_true rfl) ⟨Nat.le_of_ble_eq_true rfl, Nat.le_of_ble_eq_true rfl⟩ dX12_writeWord_27 rfl (st := []) (fun I_8 J_9 h_10 => ?_)
    obtain ⟨hUI_8, hFI_8, hGJ_9, ex_7⟩ := h_10
    have hF_11 := fq_tr hF hFI_8 (by decide)
    have hG_12 := fq_tr hG hGJ_9 (by decide)
    obtain ⟨x_13, hx_13, rx_13, tx_13, ux_13⟩ := tx_b (lo := 1) (hi := 59) ex_7 hxp0 rxp0 (by decide) (by decide)
    exact g_vret B K rfl ⟨hUI_8, hF_11, hG_12, (tx_m hxp0 hx_13 ⟨by omega, by omega⟩)⟩ dX12_writeWord_30
  · skip
    have r_14 := le_r (nlt h_2) rc_0 rx_1
    refine g_aload_n C 0 dX12_writeWord_8 rfl rfl ?_
    refine g_lload_n C 1 dX12_writeWord_9 rfl rfl ?_
    refine g_ldc2 C kl_128 dX12_writeWord_10 ?_
    obtain ⟨y_15, hy_15⟩ : ∃ z, a0 / 27 = z := ⟨_, rfl⟩
    refine g_ldivE C (v := y_15) dX12_writeWord_13 (by decide) hy_15 ?_
    refine g_callVV C K (c_X12_writeWord_5 W9 hLx hkx y_15  hU  (eq_rg hxp0 (rg_w rxp0 (by decide) (by decide))) (ld_27 (k := 387420489) (qx_1 (nlt h_2)) hy_15 hw (by decide))) hLx hkx (by decide) rfl v_12_338 rfl ⟨rfl, rfl⟩ ⟨Nat.le_of_ble_eq_true rfl, Nat.le_of_ble_eq_true rfl⟩ (Nat.le_of_ble_eq_true rfl) ⟨Nat.le_of_ble_eq_true rfl, Nat.le_of_ble_eq_true rfl⟩ dX12_writeWord_14 rfl (st := []) (fun I_17 J_18 h_19 => ?_)
    obtain ⟨hUI_17, hFI_17, hGJ_18, ex_16⟩ := h_19
    have hF_20 := fq_tr hF hFI_17 (by decide)
    have hG_21 := fq_tr hG hGJ_18 (by decide)
    obtain ⟨x_22, hx_22, rx_22, tx_22, ux_22⟩ := tx_b (lo := 1) (hi := 63) ex_16 hxp0 rxp0 (by decide) (by decide)
    refine g_aload_n C 0 dX12_writeWord_17 rfl rfl ?_
    refine g_bipush C (v := 96) dX12_writeWord_18 (by decide) ?_
    refine g_lload_n C 1 dX12_writeWord_20 rfl rfl ?_
    refine g_ldc2 C kl_128 dX12_writeWord_21 ?_
    refine g_lrem C dX12_writeWord_24 (by decide) (fun y_23 => ?_)
    obtain ⟨x_24, hx_24, rx_24⟩ := ex_any (z0 := Int64.toInt32 y_23)
    refine g_l2i C (v := x_24) dX12_writeWord_25 hx_24 ?_
    obtain ⟨x_25, hx_25, rx_25⟩ := ex_any (z0 := 96 + x_24)
    refine g_iadd C (v := x_25) dX12_writeWord_26 hx_25 ?_
    refine g_callVV C K (c_X12_write W9 hLx hkx x_25  hUI_17  (eq_rg hx_22 (rg_w rx_22 (by decide) (by decide)))) hLx hkx (by decide) rfl v_12_342 rfl ⟨rfl, rfl⟩ ⟨Nat.le_of_ble_eq_true rfl, Nat.le_of_ble_eq_true rfl⟩ (Nat.le_of_ble_eq_true rfl) ⟨Nat.le_of_ble_eq_true rfl, Nat.le_of_ble_eq_true rfl⟩ dX12_writeWord_27 rfl (st := []) (fun I_27 J_28 h_29 => ?_)
    obtain ⟨hUI_27, hFI_27, hGJ_28, ex_26⟩ := h_29
    have hF_30 := fq_tr hF_20 hFI_27 (by decide)
    have hG_31 := fq_tr hG_21 hGJ_28 (by decide)
    obtain ⟨x_32, hx_32, rx_32, tx_32, ux_32⟩ := tx_b (lo := 2) (hi := 64) ex_26 hx_22 rx_22 (by decide) (by decide)
    exact g_vret B K rfl ⟨hUI_27, hF_30, hG_31, (tx_m hxp0 hx_32 ⟨by omega, by omega⟩)⟩ dX12_writeWord_30
set_option maxRecDepth 100000 in
set_option maxHeartbeats 8000000 in
theorem c_X12_writeWord_7 {l : Launch} {D : va_G} {cy : Nat → ClassId} {L : List Nat} {κ ln : Nat → Nat} {R : Nat → Nat → Option Nat} {I : Nat → Nat → Int32} {J : Nat → Nat → Int64} {ow : Nat → Nat × Nat} (W9 : ∀ a ∈ L, Shp L κ ln R ow a) {x : Nat} (hLx : x ∈ L) (hkx : κ x = 12) (a0 : Int64) (hU : Iw L κ R ow I) (hp0 : Rg 0 57 (I x 40)) (hw : a0.toInt < (10460353203 : Int)) : CtV l yX12_writeWord cX12_writeWord 3 none { frames := 7, cells := 0, slots := 0, locals := 153 } D cy L κ ln R I J [.ref x, .long a0] (fun I2 J2 => Iw L κ R ow I2 ∧ Fq L κ ow [1240, 85900] I I2 ∧ Fq L κ ow [] J J2 ∧ ((I x 40).toInt + 1 ≤ (I2 x 40).toInt ∧ (I2 x 40).toInt ≤ (I x 40).toInt + 7)) := by
  refine CtV.of (by decide +kernel) (Nat.le_of_ble_eq_true rfl) ?_
  intro p e s m below meth c B K
  have C := B.1
  have hF : Fq L κ ow [1240, 85900] I I := fq_rf
  have hG : Fq L κ ow [] J J := fq_rf
  obtain ⟨xp0, hxp0, rxp0⟩ : ∃ z, I x 40 = z ∧ Rg 0 57 z := ⟨_, rfl, hp0⟩
  refine g_lo (is := [0, 1]) (lo2 := [(0, .ref x), (1, .long a0)]) rfl ?_
  refine g_lload_n C 1 dX12_writeWord_0 rfl rfl ?_
  refine g_ldc2 C kl_128 dX12_writeWord_1 ?_
  refine g_lcmpO C dX12_writeWord_4 (fun x_1 rx_1 qx_1 => ?_)
  refine g_if_lt C (tgt := 17) dX12_writeWord_5 (by decide) (fun h_2 => ?_) (fun h_2 => ?_)
  · skip
    have r_3 := lt_l (hi := (-1)) (h_2) rx_1 rc_0 (by decide)
    refine g_aload_n C 0 dX12_writeWord_17 rfl rfl ?_
    refine g_bipush C (v := 96) dX12_writeWord_18 (by decide) ?_
    refine g_lload_n C 1 dX12_writeWord_20 rfl rfl ?_
    refine g_ldc2 C kl_128 dX12_writeWord_21 ?_
    refine g_lrem C dX12_writeWord_24 (by decide) (fun y_4 => ?_)
    obtain ⟨x_5, hx_5, rx_5⟩ := ex_any (z0 := Int64.toInt32 y_4)
    refine g_l2i C (v := x_5) dX12_writeWord_25 hx_5 ?_
    obtain ⟨x_6, hx_6, rx_6⟩ := ex_any (z0 := 96 + x_5)
    refine g_iadd C (v := x_6) dX12_writeWord_26 hx_6 ?_
    refine g_callVV C K (c_X12_write W9 hLx hkx x_6  hU  (eq_rg hxp0 (rg_w rxp0 (by decide) (by decide)))) hLx hkx (by decide) rfl v_12_342 rfl ⟨rfl, rfl⟩ ⟨Nat.le_of_ble_eq_true rfl, Nat.le_of_ble_eq_true rfl⟩ (Nat.le_of_ble_eq_true rfl) ⟨Nat.le_of_ble_eq_true rfl, Nat.le_of_ble_eq_true rfl⟩ dX12_writeWord_27 rfl (st := []) (fun I_8 J_9 h_10 => ?_)
    obtain ⟨hUI_8, hFI_8, hGJ_9, ex_7⟩ := h_10
    have hF_11 := fq_tr hF hFI_8 (by decide)
    have hG_12 := fq_tr hG hGJ_9 (by decide)
    obtain ⟨x_13, hx_13, rx_13, tx_13, ux_13⟩ := tx_b (lo := 1) (hi := 58) ex_7 hxp0 rxp0 (by decide) (by decide)
    exact g_vret B K rfl ⟨hUI_8, hF_11, hG_12, (tx_m hxp0 hx_13 ⟨by omega, by omega⟩)⟩ dX12_writeWord_30
  · skip
    have r_14 := le_r (nlt h_2) rc_0 rx_1
    refine g_aload_n C 0 dX12_writeWord_8 rfl rfl ?_
    refine g_lload_n C 1 dX12_writeWord_9 rfl rfl ?_
    refine g_ldc2 C kl_128 dX12_writeWord_10 ?_
    obtain ⟨y_15, hy_15⟩ : ∃ z, a0 / 27 = z := ⟨_, rfl⟩
    refine g_ldivE C (v := y_15) dX12_writeWord_13 (by decide) hy_15 ?_
    refine g_callVV C K (c_X12_writeWord_6 W9 hLx hkx y_15  hU  (eq_rg hxp0 (rg_w rxp0 (by decide) (by decide))) (ld_27 (k := 10460353203) (qx_1 (nlt h_2)) hy_15 hw (by decide))) hLx hkx (by decide) rfl v_12_338 rfl ⟨rfl, rfl⟩ ⟨Nat.le_of_ble_eq_true rfl, Nat.le_of_ble_eq_true rfl⟩ (Nat.le_of_ble_eq_true rfl) ⟨Nat.le_of_ble_eq_true rfl, Nat.le_of_ble_eq_true rfl⟩ dX12_writeWord_14 rfl (st := []) (fun I_17 J_18 h_19 => ?_)
    obtain ⟨hUI_17, hFI_17, hGJ_18, ex_16⟩ := h_19
    have hF_20 := fq_tr hF hFI_17 (by decide)
    have hG_21 := fq_tr hG hGJ_18 (by decide)
    obtain ⟨x_22, hx_22, rx_22, tx_22, ux_22⟩ := tx_b (lo := 1) (hi := 63) ex_16 hxp0 rxp0 (by decide) (by decide)
    refine g_aload_n C 0 dX12_writeWord_17 rfl rfl ?_
    refine g_bipush C (v := 96) dX12_writeWord_18 (by decide) ?_
    refine g_lload_n C 1 dX12_writeWord_20 rfl rfl ?_
    refine g_ldc2 C kl_128 dX12_writeWord_21 ?_
    refine g_lrem C dX12_writeWord_24 (by decide) (fun y_23 => ?_)
    obtain ⟨x_24, hx_24, rx_24⟩ := ex_any (z0 := Int64.toInt32 y_23)
    refine g_l2i C (v := x_24) dX12_writeWord_25 hx_24 ?_
    obtain ⟨x_25, hx_25, rx_25⟩ := ex_any (z0 := 96 + x_24)
    refine g_iadd C (v := x_25) dX12_writeWord_26 hx_25 ?_
    refine g_callVV C K (c_X12_write W9 hLx hkx x_25  hUI_17  (eq_rg hx_22 (rg_w rx_22 (by decide) (by decide)))) hLx hkx (by decide) rfl v_12_342 rfl ⟨rfl, rfl⟩ ⟨Nat.le_of_ble_eq_true rfl, Nat.le_of_ble_eq_true rfl⟩ (Nat.le_of_ble_eq_true rfl) ⟨Nat.le_of_ble_eq_true rfl, Nat.le_of_ble_eq_true rfl⟩ dX12_writeWord_27 rfl (st := []) (fun I_27 J_28 h_29 => ?_)
    obtain ⟨hUI_27, hFI_27, hGJ_28, ex_26⟩ := h_29
    have hF_30 := fq_tr hF_20 hFI_27 (by decide)
    have hG_31 := fq_tr hG_21 hGJ_28 (by decide)
    obtain ⟨x_32, hx_32, rx_32, tx_32, ux_32⟩ := tx_b (lo := 2) (hi := 64) ex_26 hx_22 rx_22 (by decide) (by decide)
    exact g_vret B K rfl ⟨hUI_27, hF_30, hG_31, (tx_m hxp0 hx_32 ⟨by omega, by omega⟩)⟩ dX12_writeWord_30
set_option maxRecDepth 100000 in
set_option maxHeartbeats 8000000 in
theorem c_X12_writeWord_8 {l : Launch} {D : va_G} {cy : Nat → ClassId} {L : List Nat} {κ ln : Nat → Nat} {R : Nat → Nat → Option Nat} {I : Nat → Nat → Int32} {J : Nat → Nat → Int64} {ow : Nat → Nat × Nat} (W9 : ∀ a ∈ L, Shp L κ ln R ow a) {x : Nat} (hLx : x ∈ L) (hkx : κ x = 12) (a0 : Int64) (hU : Iw L κ R ow I) (hp0 : Rg 0 56 (I x 40)) (hw : a0.toInt < (282429536481 : Int)) : CtV l yX12_writeWord cX12_writeWord 3 none { frames := 8, cells := 0, slots := 0, locals := 175 } D cy L κ ln R I J [.ref x, .long a0] (fun I2 J2 => Iw L κ R ow I2 ∧ Fq L κ ow [1240, 85900] I I2 ∧ Fq L κ ow [] J J2 ∧ ((I x 40).toInt + 1 ≤ (I2 x 40).toInt ∧ (I2 x 40).toInt ≤ (I x 40).toInt + 8)) := by
  refine CtV.of (by decide +kernel) (Nat.le_of_ble_eq_true rfl) ?_
  intro p e s m below meth c B K
  have C := B.1
  have hF : Fq L κ ow [1240, 85900] I I := fq_rf
  have hG : Fq L κ ow [] J J := fq_rf
  obtain ⟨xp0, hxp0, rxp0⟩ : ∃ z, I x 40 = z ∧ Rg 0 56 z := ⟨_, rfl, hp0⟩
  refine g_lo (is := [0, 1]) (lo2 := [(0, .ref x), (1, .long a0)]) rfl ?_
  refine g_lload_n C 1 dX12_writeWord_0 rfl rfl ?_
  refine g_ldc2 C kl_128 dX12_writeWord_1 ?_
  refine g_lcmpO C dX12_writeWord_4 (fun x_1 rx_1 qx_1 => ?_)
  refine g_if_lt C (tgt := 17) dX12_writeWord_5 (by decide) (fun h_2 => ?_) (fun h_2 => ?_)
  · skip
    have r_3 := lt_l (hi := (-1)) (h_2) rx_1 rc_0 (by decide)
    refine g_aload_n C 0 dX12_writeWord_17 rfl rfl ?_
    refine g_bipush C (v := 96) dX12_writeWord_18 (by decide) ?_
    refine g_lload_n C 1 dX12_writeWord_20 rfl rfl ?_
    refine g_ldc2 C kl_128 dX12_writeWord_21 ?_
    refine g_lrem C dX12_writeWord_24 (by decide) (fun y_4 => ?_)
    obtain ⟨x_5, hx_5, rx_5⟩ := ex_any (z0 := Int64.toInt32 y_4)
    refine g_l2i C (v := x_5) dX12_writeWord_25 hx_5 ?_
    obtain ⟨x_6, hx_6, rx_6⟩ := ex_any (z0 := 96 + x_5)
    refine g_iadd C (v := x_6) dX12_writeWord_26 hx_6 ?_
    refine g_callVV C K (c_X12_write W9 hLx hkx x_6  hU  (eq_rg hxp0 (rg_w rxp0 (by decide) (by decide)))) hLx hkx (by decide) rfl v_12_342 rfl ⟨rfl, rfl⟩ ⟨Nat.le_of_ble_eq_true rfl, Nat.le_of_ble_eq_true rfl⟩ (Nat.le_of_ble_eq_true rfl) ⟨Nat.le_of_ble_eq_true rfl, Nat.le_of_ble_eq_true rfl⟩ dX12_writeWord_27 rfl (st := []) (fun I_8 J_9 h_10 => ?_)
    obtain ⟨hUI_8, hFI_8, hGJ_9, ex_7⟩ := h_10
    have hF_11 := fq_tr hF hFI_8 (by decide)
    have hG_12 := fq_tr hG hGJ_9 (by decide)
    obtain ⟨x_13, hx_13, rx_13, tx_13, ux_13⟩ := tx_b (lo := 1) (hi := 57) ex_7 hxp0 rxp0 (by decide) (by decide)
    exact g_vret B K rfl ⟨hUI_8, hF_11, hG_12, (tx_m hxp0 hx_13 ⟨by omega, by omega⟩)⟩ dX12_writeWord_30
  · skip
    have r_14 := le_r (nlt h_2) rc_0 rx_1
    refine g_aload_n C 0 dX12_writeWord_8 rfl rfl ?_
    refine g_lload_n C 1 dX12_writeWord_9 rfl rfl ?_
    refine g_ldc2 C kl_128 dX12_writeWord_10 ?_
    obtain ⟨y_15, hy_15⟩ : ∃ z, a0 / 27 = z := ⟨_, rfl⟩
    refine g_ldivE C (v := y_15) dX12_writeWord_13 (by decide) hy_15 ?_
    refine g_callVV C K (c_X12_writeWord_7 W9 hLx hkx y_15  hU  (eq_rg hxp0 (rg_w rxp0 (by decide) (by decide))) (ld_27 (k := 282429536481) (qx_1 (nlt h_2)) hy_15 hw (by decide))) hLx hkx (by decide) rfl v_12_338 rfl ⟨rfl, rfl⟩ ⟨Nat.le_of_ble_eq_true rfl, Nat.le_of_ble_eq_true rfl⟩ (Nat.le_of_ble_eq_true rfl) ⟨Nat.le_of_ble_eq_true rfl, Nat.le_of_ble_eq_true rfl⟩ dX12_writeWord_14 rfl (st := []) (fun I_17 J_18 h_19 => ?_)
    obtain ⟨hUI_17, hFI_17, hGJ_18, ex_16⟩ := h_19
    have hF_20 := fq_tr hF hFI_17 (by decide)
    have hG_21 := fq_tr hG hGJ_18 (by decide)
    obtain ⟨x_22, hx_22, rx_22, tx_22, ux_22⟩ := tx_b (lo := 1) (hi := 63) ex_16 hxp0 rxp0 (by decide) (by decide)
    refine g_aload_n C 0 dX12_writeWord_17 rfl rfl ?_
    refine g_bipush C (v := 96) dX12_writeWord_18 (by decide) ?_
    refine g_lload_n C 1 dX12_writeWord_20 rfl rfl ?_
    refine g_ldc2 C kl_128 dX12_writeWord_21 ?_
    refine g_lrem C dX12_writeWord_24 (by decide) (fun y_23 => ?_)
    obtain ⟨x_24, hx_24, rx_24⟩ := ex_any (z0 := Int64.toInt32 y_23)
    refine g_l2i C (v := x_24) dX12_writeWord_25 hx_24 ?_
    obtain ⟨x_25, hx_25, rx_25⟩ := ex_any (z0 := 96 + x_24)
    refine g_iadd C (v := x_25) dX12_writeWord_26 hx_25 ?_
    refine g_callVV C K (c_X12_write W9 hLx hkx x_25  hUI_17  (eq_rg hx_22 (rg_w rx_22 (by decide) (by decide)))) hLx hkx (by decide) rfl v_12_342 rfl ⟨rfl, rfl⟩ ⟨Nat.le_of_ble_eq_true rfl, Nat.le_of_ble_eq_true rfl⟩ (Nat.le_of_ble_eq_true rfl) ⟨Nat.le_of_ble_eq_true rfl, Nat.le_of_ble_eq_true rfl⟩ dX12_writeWord_27 rfl (st := []) (fun I_27 J_28 h_29 => ?_)
    obtain ⟨hUI_27, hFI_27, hGJ_28, ex_26⟩ := h_29
    have hF_30 := fq_tr hF_20 hFI_27 (by decide)
    have hG_31 := fq_tr hG_21 hGJ_28 (by decide)
    obtain ⟨x_32, hx_32, rx_32, tx_32, ux_32⟩ := tx_b (lo := 2) (hi := 64) ex_26 hx_22 rx_22 (by decide) (by decide)
    exact g_vret B K rfl ⟨hUI_27, hF_30, hG_31, (tx_m hxp0 hx_32 ⟨by omega, by omega⟩)⟩ dX12_writeWord_30
set_option maxRecDepth 100000 in
set_option maxHeartbeats 8000000 in
theorem c_X12_writeWord_9 {l : Launch} {D : va_G} {cy : Nat → ClassId} {L : List Nat} {κ ln : Nat → Nat} {R : Nat → Nat → Option Nat} {I : Nat → Nat → Int32} {J : Nat → Nat → Int64} {ow : Nat → Nat × Nat} (W9 : ∀ a ∈ L, Shp L κ ln R ow a) {x : Nat} (hLx : x ∈ L) (hkx : κ x = 12) (a0 : Int64) (hU : Iw L κ R ow I) (hp0 : Rg 0 55 (I x 40)) (hw : a0.toInt < (7625597484987 : Int)) : CtV l yX12_writeWord cX12_writeWord 3 none { frames := 9, cells := 0, slots := 0, locals := 197 } D cy L κ ln R I J [.ref x, .long a0] (fun I2 J2 => Iw L κ R ow I2 ∧ Fq L κ ow [1240, 85900] I I2 ∧ Fq L κ ow [] J J2 ∧ ((I x 40).toInt + 1 ≤ (I2 x 40).toInt ∧ (I2 x 40).toInt ≤ (I x 40).toInt + 9)) := by
  refine CtV.of (by decide +kernel) (Nat.le_of_ble_eq_true rfl) ?_
  intro p e s m below meth c B K
  have C := B.1
  have hF : Fq L κ ow [1240, 85900] I I := fq_rf
  have hG : Fq L κ ow [] J J := fq_rf
  obtain ⟨xp0, hxp0, rxp0⟩ : ∃ z, I x 40 = z ∧ Rg 0 55 z := ⟨_, rfl, hp0⟩
  refine g_lo (is := [0, 1]) (lo2 := [(0, .ref x), (1, .long a0)]) rfl ?_
  refine g_lload_n C 1 dX12_writeWord_0 rfl rfl ?_
  refine g_ldc2 C kl_128 dX12_writeWord_1 ?_
  refine g_lcmpO C dX12_writeWord_4 (fun x_1 rx_1 qx_1 => ?_)
  refine g_if_lt C (tgt := 17) dX12_writeWord_5 (by decide) (fun h_2 => ?_) (fun h_2 => ?_)
  · skip
    have r_3 := lt_l (hi := (-1)) (h_2) rx_1 rc_0 (by decide)
    refine g_aload_n C 0 dX12_writeWord_17 rfl rfl ?_
    refine g_bipush C (v := 96) dX12_writeWord_18 (by decide) ?_
    refine g_lload_n C 1 dX12_writeWord_20 rfl rfl ?_
    refine g_ldc2 C kl_128 dX12_writeWord_21 ?_
    refine g_lrem C dX12_writeWord_24 (by decide) (fun y_4 => ?_)
    obtain ⟨x_5, hx_5, rx_5⟩ := ex_any (z0 := Int64.toInt32 y_4)
    refine g_l2i C (v := x_5) dX12_writeWord_25 hx_5 ?_
    obtain ⟨x_6, hx_6, rx_6⟩ := ex_any (z0 := 96 + x_5)
    refine g_iadd C (v := x_6) dX12_writeWord_26 hx_6 ?_
    refine g_callVV C K (c_X12_write W9 hLx hkx x_6  hU  (eq_rg hxp0 (rg_w rxp0 (by decide) (by decide)))) hLx hkx (by decide) rfl v_12_342 rfl ⟨rfl, rfl⟩ ⟨Nat.le_of_ble_eq_true rfl, Nat.le_of_ble_eq_true rfl⟩ (Nat.le_of_ble_eq_true rfl) ⟨Nat.le_of_ble_eq_true rfl, Nat.le_of_ble_eq_true rfl⟩ dX12_writeWord_27 rfl (st := []) (fun I_8 J_9 h_10 => ?_)
    obtain ⟨hUI_8, hFI_8, hGJ_9, ex_7⟩ := h_10
    have hF_11 := fq_tr hF hFI_8 (by decide)
    have hG_12 := fq_tr hG hGJ_9 (by decide)
    obtain ⟨x_13, hx_13, rx_13, tx_13, ux_13⟩ := tx_b (lo := 1) (hi := 56) ex_7 hxp0 rxp0 (by decide) (by decide)
    exact g_vret B K rfl ⟨hUI_8, hF_11, hG_12, (tx_m hxp0 hx_13 ⟨by omega, by omega⟩)⟩ dX12_writeWord_30
  · skip
    have r_14 := le_r (nlt h_2) rc_0 rx_1
    refine g_aload_n C 0 dX12_writeWord_8 rfl rfl ?_
    refine g_lload_n C 1 dX12_writeWord_9 rfl rfl ?_
    refine g_ldc2 C kl_128 dX12_writeWord_10 ?_
    obtain ⟨y_15, hy_15⟩ : ∃ z, a0 / 27 = z := ⟨_, rfl⟩
    refine g_ldivE C (v := y_15) dX12_writeWord_13 (by decide) hy_15 ?_
    refine g_callVV C K (c_X12_writeWord_8 W9 hLx hkx y_15  hU  (eq_rg hxp0 (rg_w rxp0 (by decide) (by decide))) (ld_27 (k := 7625597484987) (qx_1 (nlt h_2)) hy_15 hw (by decide))) hLx hkx (by decide) rfl v_12_338 rfl ⟨rfl, rfl⟩ ⟨Nat.le_of_ble_eq_true rfl, Nat.le_of_ble_eq_true rfl⟩ (Nat.le_of_ble_eq_true rfl) ⟨Nat.le_of_ble_eq_true rfl, Nat.le_of_ble_eq_true rfl⟩ dX12_writeWord_14 rfl (st := []) (fun I_17 J_18 h_19 => ?_)
    obtain ⟨hUI_17, hFI_17, hGJ_18, ex_16⟩ := h_19
    have hF_20 := fq_tr hF hFI_17 (by decide)
    have hG_21 := fq_tr hG hGJ_18 (by decide)
    obtain ⟨x_22, hx_22, rx_22, tx_22, ux_22⟩ := tx_b (lo := 1) (hi := 63) ex_16 hxp0 rxp0 (by decide) (by decide)
    refine g_aload_n C 0 dX12_writeWord_17 rfl rfl ?_
    refine g_bipush C (v := 96) dX12_writeWord_18 (by decide) ?_
    refine g_lload_n C 1 dX12_writeWord_20 rfl rfl ?_
    refine g_ldc2 C kl_128 dX12_writeWord_21 ?_
    refine g_lrem C dX12_writeWord_24 (by decide) (fun y_23 => ?_)
    obtain ⟨x_24, hx_24, rx_24⟩ := ex_any (z0 := Int64.toInt32 y_23)
    refine g_l2i C (v := x_24) dX12_writeWord_25 hx_24 ?_
    obtain ⟨x_25, hx_25, rx_25⟩ := ex_any (z0 := 96 + x_24)
    refine g_iadd C (v := x_25) dX12_writeWord_26 hx_25 ?_
    refine g_callVV C K (c_X12_write W9 hLx hkx x_25  hUI_17  (eq_rg hx_22 (rg_w rx_22 (by decide) (by decide)))) hLx hkx (by decide) rfl v_12_342 rfl ⟨rfl, rfl⟩ ⟨Nat.le_of_ble_eq_true rfl, Nat.le_of_ble_eq_true rfl⟩ (Nat.le_of_ble_eq_true rfl) ⟨Nat.le_of_ble_eq_true rfl, Nat.le_of_ble_eq_true rfl⟩ dX12_writeWord_27 rfl (st := []) (fun I_27 J_28 h_29 => ?_)
    obtain ⟨hUI_27, hFI_27, hGJ_28, ex_26⟩ := h_29
    have hF_30 := fq_tr hF_20 hFI_27 (by decide)
    have hG_31 := fq_tr hG_21 hGJ_28 (by decide)
    obtain ⟨x_32, hx_32, rx_32, tx_32, ux_32⟩ := tx_b (lo := 2) (hi := 64) ex_26 hx_22 rx_22 (by decide) (by decide)
    exact g_vret B K rfl ⟨hUI_27, hF_30, hG_31, (tx_m hxp0 hx_32 ⟨by omega, by omega⟩)⟩ dX12_writeWord_30
set_option maxRecDepth 100000 in
set_option maxHeartbeats 8000000 in
theorem c_X12_writeWord_10 {l : Launch} {D : va_G} {cy : Nat → ClassId} {L : List Nat} {κ ln : Nat → Nat} {R : Nat → Nat → Option Nat} {I : Nat → Nat → Int32} {J : Nat → Nat → Int64} {ow : Nat → Nat × Nat} (W9 : ∀ a ∈ L, Shp L κ ln R ow a) {x : Nat} (hLx : x ∈ L) (hkx : κ x = 12) (a0 : Int64) (hU : Iw L κ R ow I) (hp0 : Rg 0 54 (I x 40)) (hw : a0.toInt < (205891132094649 : Int)) : CtV l yX12_writeWord cX12_writeWord 3 none { frames := 10, cells := 0, slots := 0, locals := 219 } D cy L κ ln R I J [.ref x, .long a0] (fun I2 J2 => Iw L κ R ow I2 ∧ Fq L κ ow [1240, 85900] I I2 ∧ Fq L κ ow [] J J2 ∧ ((I x 40).toInt + 1 ≤ (I2 x 40).toInt ∧ (I2 x 40).toInt ≤ (I x 40).toInt + 10)) := by
  refine CtV.of (by decide +kernel) (Nat.le_of_ble_eq_true rfl) ?_
  intro p e s m below meth c B K
  have C := B.1
  have hF : Fq L κ ow [1240, 85900] I I := fq_rf
  have hG : Fq L κ ow [] J J := fq_rf
  obtain ⟨xp0, hxp0, rxp0⟩ : ∃ z, I x 40 = z ∧ Rg 0 54 z := ⟨_, rfl, hp0⟩
  refine g_lo (is := [0, 1]) (lo2 := [(0, .ref x), (1, .long a0)]) rfl ?_
  refine g_lload_n C 1 dX12_writeWord_0 rfl rfl ?_
  refine g_ldc2 C kl_128 dX12_writeWord_1 ?_
  refine g_lcmpO C dX12_writeWord_4 (fun x_1 rx_1 qx_1 => ?_)
  refine g_if_lt C (tgt := 17) dX12_writeWord_5 (by decide) (fun h_2 => ?_) (fun h_2 => ?_)
  · skip
    have r_3 := lt_l (hi := (-1)) (h_2) rx_1 rc_0 (by decide)
    refine g_aload_n C 0 dX12_writeWord_17 rfl rfl ?_
    refine g_bipush C (v := 96) dX12_writeWord_18 (by decide) ?_
    refine g_lload_n C 1 dX12_writeWord_20 rfl rfl ?_
    refine g_ldc2 C kl_128 dX12_writeWord_21 ?_
    refine g_lrem C dX12_writeWord_24 (by decide) (fun y_4 => ?_)
    obtain ⟨x_5, hx_5, rx_5⟩ := ex_any (z0 := Int64.toInt32 y_4)
    refine g_l2i C (v := x_5) dX12_writeWord_25 hx_5 ?_
    obtain ⟨x_6, hx_6, rx_6⟩ := ex_any (z0 := 96 + x_5)
    refine g_iadd C (v := x_6) dX12_writeWord_26 hx_6 ?_
    refine g_callVV C K (c_X12_write W9 hLx hkx x_6  hU  (eq_rg hxp0 (rg_w rxp0 (by decide) (by decide)))) hLx hkx (by decide) rfl v_12_342 rfl ⟨rfl, rfl⟩ ⟨Nat.le_of_ble_eq_true rfl, Nat.le_of_ble_eq_true rfl⟩ (Nat.le_of_ble_eq_true rfl) ⟨Nat.le_of_ble_eq_true rfl, Nat.le_of_ble_eq_true rfl⟩ dX12_writeWord_27 rfl (st := []) (fun I_8 J_9 h_10 => ?_)
    obtain ⟨hUI_8, hFI_8, hGJ_9, ex_7⟩ := h_10
    have hF_11 := fq_tr hF hFI_8 (by decide)
    have hG_12 := fq_tr hG hGJ_9 (by decide)
    obtain ⟨x_13, hx_13, rx_13, tx_13, ux_13⟩ := tx_b (lo := 1) (hi := 55) ex_7 hxp0 rxp0 (by decide) (by decide)
    exact g_vret B K rfl ⟨hUI_8, hF_11, hG_12, (tx_m hxp0 hx_13 ⟨by omega, by omega⟩)⟩ dX12_writeWord_30
  · skip
    have r_14 := le_r (nlt h_2) rc_0 rx_1
    refine g_aload_n C 0 dX12_writeWord_8 rfl rfl ?_
    refine g_lload_n C 1 dX12_writeWord_9 rfl rfl ?_
    refine g_ldc2 C kl_128 dX12_writeWord_10 ?_
    obtain ⟨y_15, hy_15⟩ : ∃ z, a0 / 27 = z := ⟨_, rfl⟩
    refine g_ldivE C (v := y_15) dX12_writeWord_13 (by decide) hy_15 ?_
    refine g_callVV C K (c_X12_writeWord_9 W9 hLx hkx y_15  hU  (eq_rg hxp0 (rg_w rxp0 (by decide) (by decide))) (ld_27 (k := 205891132094649) (qx_1 (nlt h_2)) hy_15 hw (by decide))) hLx hkx (by decide) rfl v_12_338 rfl ⟨rfl, rfl⟩ ⟨Nat.le_of_ble_eq_true rfl, Nat.le_of_ble_eq_true rfl⟩ (Nat.le_of_ble_eq_true rfl) ⟨Nat.le_of_ble_eq_true rfl, Nat.le_of_ble_eq_true rfl⟩ dX12_writeWord_14 rfl (st := []) (fun I_17 J_18 h_19 => ?_)
    obtain ⟨hUI_17, hFI_17, hGJ_18, ex_16⟩ := h_19
    have hF_20 := fq_tr hF hFI_17 (by decide)
    have hG_21 := fq_tr hG hGJ_18 (by decide)
    obtain ⟨x_22, hx_22, rx_22, tx_22, ux_22⟩ := tx_b (lo := 1) (hi := 63) ex_16 hxp0 rxp0 (by decide) (by decide)
    refine g_aload_n C 0 dX12_writeWord_17 rfl rfl ?_
    refine g_bipush C (v := 96) dX12_writeWord_18 (by decide) ?_
    refine g_lload_n C 1 dX12_writeWord_20 rfl rfl ?_
    refine g_ldc2 C kl_128 dX12_writeWord_21 ?_
    refine g_lrem C dX12_writeWord_24 (by decide) (fun y_23 => ?_)
    obtain ⟨x_24, hx_24, rx_24⟩ := ex_any (z0 := Int64.toInt32 y_23)
    refine g_l2i C (v := x_24) dX12_writeWord_25 hx_24 ?_
    obtain ⟨x_25, hx_25, rx_25⟩ := ex_any (z0 := 96 + x_24)
    refine g_iadd C (v := x_25) dX12_writeWord_26 hx_25 ?_
    refine g_callVV C K (c_X12_write W9 hLx hkx x_25  hUI_17  (eq_rg hx_22 (rg_w rx_22 (by decide) (by decide)))) hLx hkx (by decide) rfl v_12_342 rfl ⟨rfl, rfl⟩ ⟨Nat.le_of_ble_eq_true rfl, Nat.le_of_ble_eq_true rfl⟩ (Nat.le_of_ble_eq_true rfl) ⟨Nat.le_of_ble_eq_true rfl, Nat.le_of_ble_eq_true rfl⟩ dX12_writeWord_27 rfl (st := []) (fun I_27 J_28 h_29 => ?_)
    obtain ⟨hUI_27, hFI_27, hGJ_28, ex_26⟩ := h_29
    have hF_30 := fq_tr hF_20 hFI_27 (by decide)
    have hG_31 := fq_tr hG_21 hGJ_28 (by decide)
    obtain ⟨x_32, hx_32, rx_32, tx_32, ux_32⟩ := tx_b (lo := 2) (hi := 64) ex_26 hx_22 rx_22 (by decide) (by decide)
    exact g_vret B K rfl ⟨hUI_27, hF_30, hG_31, (tx_m hxp0 hx_32 ⟨by omega, by omega⟩)⟩ dX12_writeWord_30
set_option maxRecDepth 100000 in
set_option maxHeartbeats 8000000 in
theorem c_X12_writeWord_11 {l : Launch} {D : va_G} {cy : Nat → ClassId} {L : List Nat} {κ ln : Nat → Nat} {R : Nat → Nat → Option Nat} {I : Nat → Nat → Int32} {J : Nat → Nat → Int64} {ow : Nat → Nat × Nat} (W9 : ∀ a ∈ L, Shp L κ ln R ow a) {x : Nat} (hLx : x ∈ L) (hkx : κ x = 12) (a0 : Int64) (hU : Iw L κ R ow I) (hp0 : Rg 0 53 (I x 40)) (hw : a0.toInt < (5559060566555523 : Int)) : CtV l yX12_writeWord cX12_writeWord 3 none { frames := 11, cells := 0, slots := 0, locals := 241 } D cy L κ ln R I J [.ref x, .long a0] (fun I2 J2 => Iw L κ R ow I2 ∧ Fq L κ ow [1240, 85900] I I2 ∧ Fq L κ ow [] J J2 ∧ ((I x 40).toInt + 1 ≤ (I2 x 40).toInt ∧ (I2 x 40).toInt ≤ (I x 40).toInt + 11)) := by
  refine CtV.of (by decide +kernel) (Nat.le_of_ble_eq_true rfl) ?_
  intro p e s m below meth c B K
  have C := B.1
  have hF : Fq L κ ow [1240, 85900] I I := fq_rf
  have hG : Fq L κ ow [] J J := fq_rf
  obtain ⟨xp0, hxp0, rxp0⟩ : ∃ z, I x 40 = z ∧ Rg 0 53 z := ⟨_, rfl, hp0⟩
  refine g_lo (is := [0, 1]) (lo2 := [(0, .ref x), (1, .long a0)]) rfl ?_
  refine g_lload_n C 1 dX12_writeWord_0 rfl rfl ?_
  refine g_ldc2 C kl_128 dX12_writeWord_1 ?_
  refine g_lcmpO C dX12_writeWord_4 (fun x_1 rx_1 qx_1 => ?_)
  refine g_if_lt C (tgt := 17) dX12_writeWord_5 (by decide) (fun h_2 => ?_) (fun h_2 => ?_)
  · skip
    have r_3 := lt_l (hi := (-1)) (h_2) rx_1 rc_0 (by decide)
    refine g_aload_n C 0 dX12_writeWord_17 rfl rfl ?_
    refine g_bipush C (v := 96) dX12_writeWord_18 (by decide) ?_
    refine g_lload_n C 1 dX12_writeWord_20 rfl rfl ?_
    refine g_ldc2 C kl_128 dX12_writeWord_21 ?_
    refine g_lrem C dX12_writeWord_24 (by decide) (fun y_4 => ?_)
    obtain ⟨x_5, hx_5, rx_5⟩ := ex_any (z0 := Int64.toInt32 y_4)
    refine g_l2i C (v := x_5) dX12_writeWord_25 hx_5 ?_
    obtain ⟨x_6, hx_6, rx_6⟩ := ex_any (z0 := 96 + x_5)
    refine g_iadd C (v := x_6) dX12_writeWord_26 hx_6 ?_
    refine g_callVV C K (c_X12_write W9 hLx hkx x_6  hU  (eq_rg hxp0 (rg_w rxp0 (by decide) (by decide)))) hLx hkx (by decide) rfl v_12_342 rfl ⟨rfl, rfl⟩ ⟨Nat.le_of_ble_eq_true rfl, Nat.le_of_ble_eq_true rfl⟩ (Nat.le_of_ble_eq_true rfl) ⟨Nat.le_of_ble_eq_true rfl, Nat.le_of_ble_eq_true rfl⟩ dX12_writeWord_27 rfl (st := []) (fun I_8 J_9 h_10 => ?_)
    obtain ⟨hUI_8, hFI_8, hGJ_9, ex_7⟩ := h_10
    have hF_11 := fq_tr hF hFI_8 (by decide)
    have hG_12 := fq_tr hG hGJ_9 (by decide)
    obtain ⟨x_13, hx_13, rx_13, tx_13, ux_13⟩ := tx_b (lo := 1) (hi := 54) ex_7 hxp0 rxp0 (by decide) (by decide)
    exact g_vret B K rfl ⟨hUI_8, hF_11, hG_12, (tx_m hxp0 hx_13 ⟨by omega, by omega⟩)⟩ dX12_writeWord_30
  · skip
    have r_14 := le_r (nlt h_2) rc_0 rx_1
    refine g_aload_n C 0 dX12_writeWord_8 rfl rfl ?_
    refine g_lload_n C 1 dX12_writeWord_9 rfl rfl ?_
    refine g_ldc2 C kl_128 dX12_writeWord_10 ?_
    obtain ⟨y_15, hy_15⟩ : ∃ z, a0 / 27 = z := ⟨_, rfl⟩
    refine g_ldivE C (v := y_15) dX12_writeWord_13 (by decide) hy_15 ?_
    refine g_callVV C K (c_X12_writeWord_10 W9 hLx hkx y_15  hU  (eq_rg hxp0 (rg_w rxp0 (by decide) (by decide))) (ld_27 (k := 5559060566555523) (qx_1 (nlt h_2)) hy_15 hw (by decide))) hLx hkx (by decide) rfl v_12_338 rfl ⟨rfl, rfl⟩ ⟨Nat.le_of_ble_eq_true rfl, Nat.le_of_ble_eq_true rfl⟩ (Nat.le_of_ble_eq_true rfl) ⟨Nat.le_of_ble_eq_true rfl, Nat.le_of_ble_eq_true rfl⟩ dX12_writeWord_14 rfl (st := []) (fun I_17 J_18 h_19 => ?_)
    obtain ⟨hUI_17, hFI_17, hGJ_18, ex_16⟩ := h_19
    have hF_20 := fq_tr hF hFI_17 (by decide)
    have hG_21 := fq_tr hG hGJ_18 (by decide)
    obtain ⟨x_22, hx_22, rx_22, tx_22, ux_22⟩ := tx_b (lo := 1) (hi := 63) ex_16 hxp0 rxp0 (by decide) (by decide)
    refine g_aload_n C 0 dX12_writeWord_17 rfl rfl ?_
    refine g_bipush C (v := 96) dX12_writeWord_18 (by decide) ?_
    refine g_lload_n C 1 dX12_writeWord_20 rfl rfl ?_
    refine g_ldc2 C kl_128 dX12_writeWord_21 ?_
    refine g_lrem C dX12_writeWord_24 (by decide) (fun y_23 => ?_)
    obtain ⟨x_24, hx_24, rx_24⟩ := ex_any (z0 := Int64.toInt32 y_23)
    refine g_l2i C (v := x_24) dX12_writeWord_25 hx_24 ?_
    obtain ⟨x_25, hx_25, rx_25⟩ := ex_any (z0 := 96 + x_24)
    refine g_iadd C (v := x_25) dX12_writeWord_26 hx_25 ?_
    refine g_callVV C K (c_X12_write W9 hLx hkx x_25  hUI_17  (eq_rg hx_22 (rg_w rx_22 (by decide) (by decide)))) hLx hkx (by decide) rfl v_12_342 rfl ⟨rfl, rfl⟩ ⟨Nat.le_of_ble_eq_true rfl, Nat.le_of_ble_eq_true rfl⟩ (Nat.le_of_ble_eq_true rfl) ⟨Nat.le_of_ble_eq_true rfl, Nat.le_of_ble_eq_true rfl⟩ dX12_writeWord_27 rfl (st := []) (fun I_27 J_28 h_29 => ?_)
    obtain ⟨hUI_27, hFI_27, hGJ_28, ex_26⟩ := h_29
    have hF_30 := fq_tr hF_20 hFI_27 (by decide)
    have hG_31 := fq_tr hG_21 hGJ_28 (by decide)
    obtain ⟨x_32, hx_32, rx_32, tx_32, ux_32⟩ := tx_b (lo := 2) (hi := 64) ex_26 hx_22 rx_22 (by decide) (by decide)
    exact g_vret B K rfl ⟨hUI_27, hF_30, hG_31, (tx_m hxp0 hx_32 ⟨by omega, by omega⟩)⟩ dX12_writeWord_30
