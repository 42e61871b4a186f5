theorem dX12_hungriest_0 : decode cX12_hungriest 0 = .ok (.aload_n 0, 1) := by decide +kernel
theorem dX12_hungriest_1 : decode cX12_hungriest 1 = .ok (.iconst 0, 1) := by decide +kernel
theorem dX12_hungriest_2 : decode cX12_hungriest 2 = .ok (.putfield 82, 3) := by decide +kernel
theorem dX12_hungriest_5 : decode cX12_hungriest 5 = .ok (.iconst (-1), 1) := by decide +kernel
theorem dX12_hungriest_6 : decode cX12_hungriest 6 = .ok (.istore_n 1, 1) := by decide +kernel
theorem dX12_hungriest_7 : decode cX12_hungriest 7 = .ok (.iconst 0, 1) := by decide +kernel
theorem dX12_hungriest_8 : decode cX12_hungriest 8 = .ok (.istore_n 2, 1) := by decide +kernel
theorem dX12_hungriest_9 : decode cX12_hungriest 9 = .ok (.iload_n 2, 1) := by decide +kernel
theorem dX12_hungriest_10 : decode cX12_hungriest 10 = .ok (.aload_n 0, 1) := by decide +kernel
theorem dX12_hungriest_11 : decode cX12_hungriest 11 = .ok (.getfield 13, 3) := by decide +kernel
theorem dX12_hungriest_14 : decode cX12_hungriest 14 = .ok (.iconst 0, 1) := by decide +kernel
theorem dX12_hungriest_15 : decode cX12_hungriest 15 = .ok (.iaload, 1) := by decide +kernel
theorem dX12_hungriest_16 : decode cX12_hungriest 16 = .ok (.if_icmp .ge 45, 3) := by decide +kernel
theorem dX12_hungriest_19 : decode cX12_hungriest 19 = .ok (.aload_n 0, 1) := by decide +kernel
theorem dX12_hungriest_20 : decode cX12_hungriest 20 = .ok (.iload_n 2, 1) := by decide +kernel
theorem dX12_hungriest_21 : decode cX12_hungriest 21 = .ok (.invokevirtual 244, 3) := by decide +kernel
theorem dX12_hungriest_24 : decode cX12_hungriest 24 = .ok (.ifCond .ne 31, 3) := by decide +kernel
theorem dX12_hungriest_27 : decode cX12_hungriest 27 = .ok (.iload_n 1, 1) := by decide +kernel
theorem dX12_hungriest_28 : decode cX12_hungriest 28 = .ok (.iconst (-1), 1) := by decide +kernel
theorem dX12_hungriest_29 : decode cX12_hungriest 29 = .ok (.if_icmp .eq 24, 3) := by decide +kernel
theorem dX12_hungriest_32 : decode cX12_hungriest 32 = .ok (.aload_n 0, 1) := by decide +kernel
theorem dX12_hungriest_33 : decode cX12_hungriest 33 = .ok (.getfield 13, 3) := by decide +kernel
theorem dX12_hungriest_36 : decode cX12_hungriest 36 = .ok (.bipush 98, 2) := by decide +kernel
theorem dX12_hungriest_38 : decode cX12_hungriest 38 = .ok (.iload_n 2, 1) := by decide +kernel
theorem dX12_hungriest_39 : decode cX12_hungriest 39 = .ok (.iadd, 1) := by decide +kernel
theorem dX12_hungriest_40 : decode cX12_hungriest 40 = .ok (.iaload, 1) := by decide +kernel
theorem dX12_hungriest_41 : decode cX12_hungriest 41 = .ok (.aload_n 0, 1) := by decide +kernel
theorem dX12_hungriest_42 : decode cX12_hungriest 42 = .ok (.getfield 13, 3) := by decide +kernel
theorem dX12_hungriest_45 : decode cX12_hungriest 45 = .ok (.bipush 98, 2) := by decide +kernel
theorem dX12_hungriest_47 : decode cX12_hungriest 47 = .ok (.iload_n 1, 1) := by decide +kernel
theorem dX12_hungriest_48 : decode cX12_hungriest 48 = .ok (.iadd, 1) := by decide +kernel
theorem dX12_hungriest_49 : decode cX12_hungriest 49 = .ok (.iaload, 1) := by decide +kernel
theorem dX12_hungriest_50 : decode cX12_hungriest 50 = .ok (.if_icmp .le 5, 3) := by decide +kernel
theorem dX12_hungriest_53 : decode cX12_hungriest 53 = .ok (.iload_n 2, 1) := by decide +kernel
theorem dX12_hungriest_54 : decode cX12_hungriest 54 = .ok (.istore_n 1, 1) := by decide +kernel
theorem dX12_hungriest_55 : decode cX12_hungriest 55 = .ok (.iinc 2 1, 3) := by decide +kernel
theorem dX12_hungriest_58 : decode cX12_hungriest 58 = .ok (.goto (-49), 3) := by decide +kernel
theorem dX12_hungriest_61 : decode cX12_hungriest 61 = .ok (.iload_n 1, 1) := by decide +kernel
theorem dX12_hungriest_62 : decode cX12_hungriest 62 = .ok (.ireturn, 1) := by decide +kernel
theorem dX12_kin_0 : decode cX12_kin 0 = .ok (.aload_n 0, 1) := by decide +kernel
theorem dX12_kin_1 : decode cX12_kin 1 = .ok (.iconst 0, 1) := by decide +kernel
theorem dX12_kin_2 : decode cX12_kin 2 = .ok (.putfield 82, 3) := by decide +kernel
theorem dX12_kin_5 : decode cX12_kin 5 = .ok (.aload_n 0, 1) := by decide +kernel
theorem dX12_kin_6 : decode cX12_kin 6 = .ok (.iload_n 1, 1) := by decide +kernel
theorem dX12_kin_7 : decode cX12_kin 7 = .ok (.invokevirtual 238, 3) := by decide +kernel
theorem dX12_kin_10 : decode cX12_kin 10 = .ok (.ifCond .eq 11, 3) := by decide +kernel
theorem dX12_kin_13 : decode cX12_kin 13 = .ok (.aload_n 0, 1) := by decide +kernel
theorem dX12_kin_14 : decode cX12_kin 14 = .ok (.iload_n 2, 1) := by decide +kernel
theorem dX12_kin_15 : decode cX12_kin 15 = .ok (.invokevirtual 238, 3) := by decide +kernel
theorem dX12_kin_18 : decode cX12_kin 18 = .ok (.ifCond .ne 5, 3) := by decide +kernel
theorem dX12_kin_21 : decode cX12_kin 21 = .ok (.iconst (-1), 1) := by decide +kernel
theorem dX12_kin_22 : decode cX12_kin 22 = .ok (.ireturn, 1) := by decide +kernel
theorem dX12_kin_23 : decode cX12_kin 23 = .ok (.iconst 1, 1) := by decide +kernel
theorem dX12_kin_24 : decode cX12_kin 24 = .ok (.iload_n 1, 1) := by decide +kernel
theorem dX12_kin_25 : decode cX12_kin 25 = .ok (.ishl, 1) := by decide +kernel
theorem dX12_kin_26 : decode cX12_kin 26 = .ok (.istore_n 3, 1) := by decide +kernel
theorem dX12_kin_27 : decode cX12_kin 27 = .ok (.iconst 0, 1) := by decide +kernel
theorem dX12_kin_28 : decode cX12_kin 28 = .ok (.istore 4, 2) := by decide +kernel
theorem dX12_kin_30 : decode cX12_kin 30 = .ok (.iload 4, 2) := by decide +kernel
theorem dX12_kin_32 : decode cX12_kin 32 = .ok (.bipush 7, 2) := by decide +kernel
theorem dX12_kin_34 : decode cX12_kin 34 = .ok (.if_icmp .ge 103, 3) := by decide +kernel
theorem dX12_kin_37 : decode cX12_kin 37 = .ok (.iload_n 3, 1) := by decide +kernel
theorem dX12_kin_38 : decode cX12_kin 38 = .ok (.iload_n 2, 1) := by decide +kernel
theorem dX12_kin_39 : decode cX12_kin 39 = .ok (.invokestatic 231, 3) := by decide +kernel
theorem dX12_kin_42 : decode cX12_kin 42 = .ok (.ifCond .eq 6, 3) := by decide +kernel
theorem dX12_kin_45 : decode cX12_kin 45 = .ok (.iload 4, 2) := by decide +kernel
theorem dX12_kin_47 : decode cX12_kin 47 = .ok (.ireturn, 1) := by decide +kernel
theorem dX12_kin_48 : decode cX12_kin 48 = .ok (.iload_n 3, 1) := by decide +kernel
theorem dX12_kin_49 : decode cX12_kin 49 = .ok (.istore 5, 2) := by decide +kernel
theorem dX12_kin_51 : decode cX12_kin 51 = .ok (.iconst 0, 1) := by decide +kernel
theorem dX12_kin_52 : decode cX12_kin 52 = .ok (.istore 6, 2) := by decide +kernel
theorem dX12_kin_54 : decode cX12_kin 54 = .ok (.iload 6, 2) := by decide +kernel
theorem dX12_kin_56 : decode cX12_kin 56 = .ok (.aload_n 0, 1) := by decide +kernel
theorem dX12_kin_57 : decode cX12_kin 57 = .ok (.getfield 13, 3) := by decide +kernel
theorem dX12_kin_60 : decode cX12_kin 60 = .ok (.iconst 0, 1) := by decide +kernel
theorem dX12_kin_61 : decode cX12_kin 61 = .ok (.iaload, 1) := by decide +kernel
theorem dX12_kin_62 : decode cX12_kin 62 = .ok (.if_icmp .ge 66, 3) := by decide +kernel
theorem dX12_kin_65 : decode cX12_kin 65 = .ok (.aload_n 0, 1) := by decide +kernel
theorem dX12_kin_66 : decode cX12_kin 66 = .ok (.getfield 13, 3) := by decide +kernel
theorem dX12_kin_69 : decode cX12_kin 69 = .ok (.bipush 11, 2) := by decide +kernel
theorem dX12_kin_71 : decode cX12_kin 71 = .ok (.iload 6, 2) := by decide +kernel
theorem dX12_kin_73 : decode cX12_kin 73 = .ok (.iadd, 1) := by decide +kernel
theorem dX12_kin_74 : decode cX12_kin 74 = .ok (.iaload, 1) := by decide +kernel
theorem dX12_kin_75 : decode cX12_kin 75 = .ok (.istore 7, 2) := by decide +kernel
theorem dX12_kin_77 : decode cX12_kin 77 = .ok (.iload 7, 2) := by decide +kernel
theorem dX12_kin_79 : decode cX12_kin 79 = .ok (.iconst (-1), 1) := by decide +kernel
theorem dX12_kin_80 : decode cX12_kin 80 = .ok (.if_icmp .ne 6, 3) := by decide +kernel
theorem dX12_kin_83 : decode cX12_kin 83 = .ok (.goto 39, 3) := by decide +kernel
theorem dX12_kin_86 : decode cX12_kin 86 = .ok (.iload_n 3, 1) := by decide +kernel
theorem dX12_kin_87 : decode cX12_kin 87 = .ok (.iload 6, 2) := by decide +kernel
theorem dX12_kin_89 : decode cX12_kin 89 = .ok (.invokestatic 231, 3) := by decide +kernel
theorem dX12_kin_92 : decode cX12_kin 92 = .ok (.ifCond .eq 12, 3) := by decide +kernel
theorem dX12_kin_95 : decode cX12_kin 95 = .ok (.iload 5, 2) := by decide +kernel
theorem dX12_kin_97 : decode cX12_kin 97 = .ok (.iconst 1, 1) := by decide +kernel
theorem dX12_kin_98 : decode cX12_kin 98 = .ok (.iload 7, 2) := by decide +kernel
theorem dX12_kin_100 : decode cX12_kin 100 = .ok (.ishl, 1) := by decide +kernel
theorem dX12_kin_101 : decode cX12_kin 101 = .ok (.ior, 1) := by decide +kernel
theorem dX12_kin_102 : decode cX12_kin 102 = .ok (.istore 5, 2) := by decide +kernel
theorem dX12_kin_104 : decode cX12_kin 104 = .ok (.iload_n 3, 1) := by decide +kernel
theorem dX12_kin_105 : decode cX12_kin 105 = .ok (.iload 7, 2) := by decide +kernel
theorem dX12_kin_107 : decode cX12_kin 107 = .ok (.invokestatic 231, 3) := by decide +kernel
theorem dX12_kin_110 : decode cX12_kin 110 = .ok (.ifCond .eq 12, 3) := by decide +kernel
theorem dX12_kin_113 : decode cX12_kin 113 = .ok (.iload 5, 2) := by decide +kernel
theorem dX12_kin_115 : decode cX12_kin 115 = .ok (.iconst 1, 1) := by decide +kernel
theorem dX12_kin_116 : decode cX12_kin 116 = .ok (.iload 6, 2) := by decide +kernel
theorem dX12_kin_118 : decode cX12_kin 118 = .ok (.ishl, 1) := by decide +kernel
theorem dX12_kin_119 : decode cX12_kin 119 = .ok (.ior, 1) := by decide +kernel
theorem dX12_kin_120 : decode cX12_kin 120 = .ok (.istore 5, 2) := by decide +kernel
theorem dX12_kin_122 : decode cX12_kin 122 = .ok (.iinc 6 1, 3) := by decide +kernel
theorem dX12_kin_125 : decode cX12_kin 125 = .ok (.goto (-71), 3) := by decide +kernel
theorem dX12_kin_128 : decode cX12_kin 128 = .ok (.iload 5, 2) := by decide +kernel
theorem dX12_kin_130 : decode cX12_kin 130 = .ok (.istore_n 3, 1) := by decide +kernel
theorem dX12_kin_131 : decode cX12_kin 131 = .ok (.iinc 4 1, 3) := by decide +kernel
theorem dX12_kin_134 : decode cX12_kin 134 = .ok (.goto (-104), 3) := by decide +kernel
theorem dX12_kin_137 : decode cX12_kin 137 = .ok (.iconst (-1), 1) := by decide +kernel
theorem dX12_kin_138 : decode cX12_kin 138 = .ok (.ireturn, 1) := by decide +kernel
theorem dX12_write_0 : decode cX12_write 0 = .ok (.aload_n 0, 1) := by decide +kernel
theorem dX12_write_1 : decode cX12_write 1 = .ok (.getfield 70, 3) := by decide +kernel
theorem dX12_write_4 : decode cX12_write 4 = .ok (.aload_n 0, 1) := by decide +kernel
theorem dX12_write_5 : decode cX12_write 5 = .ok (.getfield 335, 3) := by decide +kernel
theorem dX12_write_8 : decode cX12_write 8 = .ok (.iload_n 1, 1) := by decide +kernel
theorem dX12_write_9 : decode cX12_write 9 = .ok (.iastore, 1) := by decide +kernel
theorem dX12_write_10 : decode cX12_write 10 = .ok (.aload_n 0, 1) := by decide +kernel
theorem dX12_write_11 : decode cX12_write 11 = .ok (.dup, 1) := by decide +kernel
theorem dX12_write_12 : decode cX12_write 12 = .ok (.getfield 335, 3) := by decide +kernel
theorem dX12_write_15 : decode cX12_write 15 = .ok (.iconst 1, 1) := by decide +kernel
theorem dX12_write_16 : decode cX12_write 16 = .ok (.iadd, 1) := by decide +kernel
theorem dX12_write_17 : decode cX12_write 17 = .ok (.putfield 335, 3) := by decide +kernel
theorem dX12_write_20 : decode cX12_write 20 = .ok (.return_, 1) := by decide +kernel
theorem dX12_writeWord_0 : decode cX12_writeWord 0 = .ok (.lload_n 1, 1) := by decide +kernel
theorem dX12_writeWord_1 : decode cX12_writeWord 1 = .ok (.ldc2_w 128, 3) := by decide +kernel
theorem dX12_writeWord_4 : decode cX12_writeWord 4 = .ok (.lcmp, 1) := by decide +kernel
theorem dX12_writeWord_5 : decode cX12_writeWord 5 = .ok (.ifCond .lt 12, 3) := by decide +kernel
theorem dX12_writeWord_8 : decode cX12_writeWord 8 = .ok (.aload_n 0, 1) := by decide +kernel
theorem dX12_writeWord_9 : decode cX12_writeWord 9 = .ok (.lload_n 1, 1) := by decide +kernel
theorem dX12_writeWord_10 : decode cX12_writeWord 10 = .ok (.ldc2_w 128, 3) := by decide +kernel
theorem dX12_writeWord_13 : decode cX12_writeWord 13 = .ok (.ldiv, 1) := by decide +kernel
theorem dX12_writeWord_14 : decode cX12_writeWord 14 = .ok (.invokevirtual 338, 3) := by decide +kernel
theorem dX12_writeWord_17 : decode cX12_writeWord 17 = .ok (.aload_n 0, 1) := by decide +kernel
theorem dX12_writeWord_18 : decode cX12_writeWord 18 = .ok (.bipush 96, 2) := by decide +kernel
theorem dX12_writeWord_20 : decode cX12_writeWord 20 = .ok (.lload_n 1, 1) := by decide +kernel
theorem dX12_writeWord_21 : decode cX12_writeWord 21 = .ok (.ldc2_w 128, 3) := by decide +kernel
theorem dX12_writeWord_24 : decode cX12_writeWord 24 = .ok (.lrem, 1) := by decide +kernel
theorem dX12_writeWord_25 : decode cX12_writeWord 25 = .ok (.l2i, 1) := by decide +kernel
theorem dX12_writeWord_26 : decode cX12_writeWord 26 = .ok (.iadd, 1) := by decide +kernel
theorem dX12_writeWord_27 : decode cX12_writeWord 27 = .ok (.invokevirtual 342, 3) := by decide +kernel
theorem dX12_writeWord_30 : decode cX12_writeWord 30 = .ok (.return_, 1) := by decide +kernel
theorem rc_96 : Rg 96 96 96 := ⟨by decide, by decide⟩
set_option maxRecDepth 100000 in
set_option maxHeartbeats 8000000 in
theorem c_X12_kin {l : Launch} {D : va_G} {cy : Nat → ClassId} {L : List Nat} {κ ln : Nat → Nat} {R : Nat → Nat → Option Nat} {I : Nat → Nat → Int32} {J : Nat → Nat → Int64} {ow : Nat → Nat × Nat} (W9 : ∀ a ∈ L, Shp L κ ln R ow a) {x : Nat} (hLx : x ∈ L) (hkx : κ x = 12) (a0 : Int32) (a1 : Int32) (hU : Iw L κ R ow I) : CtI l yX12_kin cX12_kin 8 (some .int) { frames := 2, cells := 0, slots := 0, locals := 43 } D cy L κ ln R I J [.ref x, .int a0, .int a1] (fun r I2 J2 => Iw L κ R ow I2 ∧ Fq L κ ow [1200] I I2 ∧ Fq L κ ow [] J J2 ∧ Rg (-1) 6 r) := by
  refine CtI.of (by decide +kernel) (Nat.le_of_ble_eq_true rfl) ?_
  intro p e s m below meth c B K
  have C := B.1
  have hF : Fq L κ ow [1200] I I := fq_rf
  have hG : Fq L κ ow [] J J := fq_rf
  obtain ⟨b_1, hb_1, hb_1L, hb_1k, hb_1n, hb_1o⟩ := shp_a (W9 x hLx) hkx 14 14 389 rfl (by decide)
  refine g_lo (is := [0, 1, 2]) (lo2 := [(0, .ref x), (1, .int a0), (2, .int a1)]) rfl ?_
  have l_30 : ∀ (n_30 : Nat) (I_2 : Nat → Nat → Int32) (J_3 : Nat → Nat → Int64) (hU_4 : Iw L κ R ow I_2) (hF_5 : Fq L κ ow [1200] I I_2) (hG_6 : Fq L κ ow [] J J_3) (r_7 : Rg 0 6 a0) (r_8 : Rg 0 6 a1) (v_9 : Int32) (v_10 : Int32) (rv_10 : Rg 0 7 v_10) (q_11 : I_2 x 0 = 0) (hm_12 : 7 < (v_10 : Int32).toInt + (n_30 : Int)), WG p l e { frames := 2, cells := 0, slots := 0, locals := 43 } s m ([.ref x, .int a0, .int a1] : List Value).toArray below meth c 8 0 0 (MQ below (Qi_ D cy L κ ln R (fun r I2 J2 => Iw L κ R ow I2 ∧ Fq L κ ow [1200] I I2 ∧ Fq L κ ow [] J J2 ∧ Rg (-1) 6 r)) ([.ref x, .int a0, .int a1] : List Value).toArray s 0 0 (Al_ L)) D cy (Al_ L) s.heap L κ ln R I_2 J_3 30 [(0, .ref x), (1, .int a0), (2, .int a1), (3, .int v_9), (4, .int v_10)] [] := by
    intro n_30
    induction n_30 with
    | zero =>
      intro I_2 J_3 hU_4 hF_5 hG_6 r_7 r_8 v_9 v_10 rv_10 q_11 hm_12
      exact ms_0 rv_10 hm_12
    | succ n_30 ih_30 =>
      intro I_2 J_3 hU_4 hF_5 hG_6 r_7 r_8 v_9 v_10 rv_10 q_11 hm_12
      have l_54 : ∀ (n_54 : Nat) (I_13 : Nat → Nat → Int32) (J_14 : Nat → Nat → Int64) (hU_15 : Iw L κ R ow I_13) (hF_16 : Fq L κ ow [1200] I I_13) (hG_17 : Fq L κ ow [] J J_14) (r_18 : Rg 0 6 a0) (r_19 : Rg 0 6 a1) (v_20 : Int32) (v_21 : Int32) (rv_21 : Rg 0 6 v_21) (v_22 : Int32) (v_23 : Int32) (rv_23 : Rg 0 7 v_23) (q_24 : I_13 x 0 = 0) (hm_25 : 7 < (v_21 : Int32).toInt + ((n_30 + 1 : Nat) : Int)) (hm_26 : 7 < (v_23 : Int32).toInt + (n_54 : Int)), WG p l e { frames := 2, cells := 0, slots := 0, locals := 43 } s m ([.ref x, .int a0, .int a1] : List Value).toArray below meth c 8 0 0 (MQ below (Qi_ D cy L κ ln R (fun r I2 J2 => Iw L κ R ow I2 ∧ Fq L κ ow [1200] I I2 ∧ Fq L κ ow [] J J2 ∧ Rg (-1) 6 r)) ([.ref x, .int a0, .int a1] : List Value).toArray s 0 0 (Al_ L)) D cy (Al_ L) s.heap L κ ln R I_13 J_14 54 [(0, .ref x), (1, .int a0), (2, .int a1), (3, .int v_20), (4, .int v_21), (5, .int v_22), (6, .int v_23)] [] := by
        intro n_54
        induction n_54 with
        | zero =>
          intro I_13 J_14 hU_15 hF_16 hG_17 r_18 r_19 v_20 v_21 rv_21 v_22 v_23 rv_23 q_24 hm_25 hm_26
          exact ms_0 rv_23 hm_26
        | succ n_54 ih_54 =>
          intro I_13 J_14 hU_15 hF_16 hG_17 r_18 r_19 v_20 v_21 rv_21 v_22 v_23 rv_23 q_24 hm_25 hm_26
          have j_122 : ∀ (I_27 : Nat → Nat → Int32) (J_28 : Nat → Nat → Int64) (hU_29 : Iw L κ R ow I_27) (hF_30 : Fq L κ ow [1200] I I_27) (hG_31 : Fq L κ ow [] J J_28) (r_32 : Rg 0 6 a0) (r_33 : Rg 0 6 a1) (v_34 : Int32) (v_35 : Int32) (rv_35 : Rg 0 6 v_35) (v_36 : Int32) (v_37 : Int32) (rv_37 : Rg 0 6 v_37) (v_38 : Int32) (q_39 : I_27 x 0 = 0) (hm_40 : 7 < (v_35 : Int32).toInt + ((n_30 + 1 : Nat) : Int)) (hm_41 : 7 < (v_37 : Int32).toInt + ((n_54 + 1 : Nat) : Int)), WG p l e { frames := 2, cells := 0, slots := 0, locals := 43 } s m ([.ref x, .int a0, .int a1] : List Value).toArray below meth c 8 0 0 (MQ below (Qi_ D cy L κ ln R (fun r I2 J2 => Iw L κ R ow I2 ∧ Fq L κ ow [1200] I I2 ∧ Fq L κ ow [] J J2 ∧ Rg (-1) 6 r)) ([.ref x, .int a0, .int a1] : List Value).toArray s 0 0 (Al_ L)) D cy (Al_ L) s.heap L κ ln R I_27 J_28 122 [(0, .ref x), (1, .int a0), (2, .int a1), (3, .int v_34), (4, .int v_35), (5, .int v_36), (6, .int v_37), (7, .int v_38)] [] := by
            intro I_27 J_28 hU_29 hF_30 hG_31 r_32 r_33 v_34 v_35 rv_35 v_36 v_37 rv_37 v_38 q_39 hm_40 hm_41
            obtain ⟨x_42, hx_42, rx_42, tx_42⟩ := ex_add (y := 1) 1 7 rv_37 rc_1 (by decide) (by decide) (by decide) (by decide)
            refine g_iinc C dX12_kin_122 (k := 6) (v := x_42) rfl hx_42 (by decide) (lo2 := [(6, .int x_42), (0, .ref x), (1, .int a0), (2, .int a1), (3, .int v_34), (4, .int v_35), (5, .int v_36), (7, .int v_38)]) rfl ?_
            refine g_goto C (tgt := 54) dX12_kin_125 (by decide) ?_
            refine g_lo (is := [1, 2, 3, 4, 5, 6, 0]) (lo2 := [(0, .ref x), (1, .int a0), (2, .int a1), (3, .int v_34), (4, .int v_35), (5, .int v_36), (6, .int x_42)]) rfl ?_
            exact ih_54 I_27 J_28 hU_29 hF_30 hG_31 (r_32) (r_33) v_34 v_35 (rv_35) v_36 x_42 (rg_w rx_42 (by decide) (by decide)) q_39 hm_40 (ms_1 hm_41 (ti_k tx_42 rc_1) (by decide))
          have j_104 : ∀ (I_43 : Nat → Nat → Int32) (J_44 : Nat → Nat → Int64) (hU_45 : Iw L κ R ow I_43) (hF_46 : Fq L κ ow [1200] I I_43) (hG_47 : Fq L κ ow [] J J_44) (r_48 : Rg 0 6 a0) (r_49 : Rg 0 6 a1) (v_50 : Int32) (v_51 : Int32) (rv_51 : Rg 0 6 v_51) (v_52 : Int32) (v_53 : Int32) (rv_53 : Rg 0 6 v_53) (v_54 : Int32) (nv_54_m1 : ¬ v_54 = (-1)) (q_55 : I_43 x 0 = 0) (hm_56 : 7 < (v_51 : Int32).toInt + ((n_30 + 1 : Nat) : Int)) (hm_57 : 7 < (v_53 : Int32).toInt + ((n_54 + 1 : Nat) : Int)), WG p l e { frames := 2, cells := 0, slots := 0, locals := 43 } s m ([.ref x, .int a0, .int a1] : List Value).toArray below meth c 8 0 0 (MQ below (Qi_ D cy L κ ln R (fun r I2 J2 => Iw L κ R ow I2 ∧ Fq L κ ow [1200] I I2 ∧ Fq L κ ow [] J J2 ∧ Rg (-1) 6 r)) ([.ref x, .int a0, .int a1] : List Value).toArray s 0 0 (Al_ L)) D cy (Al_ L) s.heap L κ ln R I_43 J_44 104 [(0, .ref x), (1, .int a0), (2, .int a1), (3, .int v_50), (4, .int v_51), (5, .int v_52), (6, .int v_53), (7, .int v_54)] [] := by
            intro I_43 J_44 hU_45 hF_46 hG_47 r_48 r_49 v_50 v_51 rv_51 v_52 v_53 rv_53 v_54 nv_54_m1 q_55 hm_56 hm_57
            refine g_iload_n C 3 dX12_kin_104 rfl rfl ?_
            refine g_iload C 7 dX12_kin_105 rfl ?_
            refine g_callSI C K (c_X12_has W9 v_50 v_54  hU_45) s_12_231 rfl ⟨rfl, rfl⟩ ⟨Nat.le_of_ble_eq_true rfl, Nat.le_of_ble_eq_true rfl⟩ (Nat.le_of_ble_eq_true rfl) ⟨Nat.le_of_ble_eq_true rfl, Nat.le_of_ble_eq_true rfl⟩ dX12_kin_107 rfl (st := []) (fun x_58 I_59 J_60 h_61 => ?_)
            obtain ⟨rfl, rfl, rx_58, ex_58⟩ := h_61
            refine g_if_eq C (tgt := 122) dX12_kin_110 (by decide) (fun h_62 => ?_) (fun h_62 => ?_)
            · skip
              have r_63 := (⟨(rx_58).1, (eq_rg (h_62) rc_0).2⟩ : Rg 0 0 x_58)
              refine g_lo (is := [0, 1, 2, 3, 4, 5, 6, 7]) (lo2 := [(0, .ref x), (1, .int a0), (2, .int a1), (3, .int v_50), (4, .int v_51), (5, .int v_52), (6, .int v_53), (7, .int v_54)]) rfl ?_
              exact j_122 I_43 J_44 hU_45 hF_46 hG_47 (r_48) (r_49) v_50 v_51 (rv_51) v_52 v_53 (rv_53) v_54 q_55 hm_56 hm_57
            · skip
              have n_64 : ¬ x_58 = 0 := h_62
              have r_65 := ne_lo (lo := 1) n_64 rx_58 rc_0 rfl (by decide)
              refine g_iload C 5 dX12_kin_113 rfl ?_
              refine g_iconst C (v := 1) dX12_kin_115 (by decide) ?_
              refine g_iload C 6 dX12_kin_116 rfl ?_
              obtain ⟨x_66, hx_66, rx_66⟩ := ex_shl (x := 1) (y := v_53) 6 64 rfl (rv_53) (by decide)
              refine g_ishl C (v := x_66) dX12_kin_118 hx_66 ?_
              obtain ⟨x_67, hx_67, rx_67⟩ := ex_any (z0 := v_52 ||| x_66)
              refine g_ior C (v := x_67) dX12_kin_119 hx_67 ?_
              refine g_istore C dX12_kin_120 (by decide) (lo2 := [(5, .int x_67), (0, .ref x), (1, .int a0), (2, .int a1), (3, .int v_50), (4, .int v_51), (6, .int v_53), (7, .int v_54)]) rfl ?_
              refine g_lo (is := [1, 2, 3, 4, 5, 0, 6, 7]) (lo2 := [(0, .ref x), (1, .int a0), (2, .int a1), (3, .int v_50), (4, .int v_51), (5, .int x_67), (6, .int v_53), (7, .int v_54)]) rfl ?_
              exact j_122 I_43 J_44 hU_45 hF_46 hG_47 (r_48) (r_49) v_50 v_51 (rv_51) x_67 v_53 (rv_53) v_54 q_55 hm_56 hm_57
          refine g_iload C 6 dX12_kin_54 rfl ?_
          refine g_aload_n C 0 dX12_kin_56 rfl rfl ?_
          refine g_getR C K hLx hkx f_12_13 hb_1 dX12_kin_57 ?_
          refine g_iconst C (v := 0) dX12_kin_60 (by decide) ?_
          obtain ⟨x_68, hx_68, rx_68⟩ := ex_getw (I := I_13) (a := b_1) (j := 0) (lo := 0) (hi := 7) hU_15.1 hb_1L (ro_a hb_1k (by decide) hb_1o hkx rfl) (by decide)
          refine h_iald C K hb_1L hb_1k (v := x_68) (0) (by decide) (by decide) (by rw [hb_1n]; decide) hx_68 dX12_kin_61 ?_
          refine g_icmp_ge C (tgt := 128) dX12_kin_62 (by decide) (fun h_69 => ?_) (fun h_69 => ?_)
          · skip
            refine g_iload C 5 dX12_kin_128 rfl ?_
            refine g_istore_n C dX12_kin_130 rfl (by decide) (lo2 := [(3, .int v_22), (0, .ref x), (1, .int a0), (2, .int a1), (4, .int v_21), (5, .int v_22), (6, .int v_23)]) rfl ?_
            obtain ⟨x_70, hx_70, rx_70, tx_70⟩ := ex_add (y := 1) 1 7 rv_21 rc_1 (by decide) (by decide) (by decide) (by decide)
            refine g_iinc C dX12_kin_131 (k := 4) (v := x_70) rfl hx_70 (by decide) (lo2 := [(4, .int x_70), (3, .int v_22), (0, .ref x), (1, .int a0), (2, .int a1), (5, .int v_22), (6, .int v_23)]) rfl ?_
            refine g_goto C (tgt := 30) dX12_kin_134 (by decide) ?_
            refine g_lo (is := [2, 3, 4, 1, 0]) (lo2 := [(0, .ref x), (1, .int a0), (2, .int a1), (3, .int v_22), (4, .int x_70)]) rfl ?_
            exact ih_30 I_13 J_14 hU_15 hF_16 hG_17 (r_18) (r_19) v_22 x_70 (rg_w rx_70 (by decide) (by decide)) q_24 (ms_1 hm_25 (ti_k tx_70 rc_1) (by decide))
          · skip
            have r_71 := lt_l (hi := 6) (nle h_69) rv_23 rx_68 (by decide)
            have r_72 := lt_r (lo := 1) (nle h_69) rv_23 rx_68 (by decide)
            refine g_aload_n C 0 dX12_kin_65 rfl rfl ?_
            refine g_getR C K hLx hkx f_12_13 hb_1 dX12_kin_66 ?_
            refine g_bipush C (v := 11) dX12_kin_69 (by decide) ?_
            refine g_iload C 6 dX12_kin_71 rfl ?_
            obtain ⟨x_73, hx_73, rx_73, tx_73⟩ := ex_add 11 17 rc_11 r_71 (by decide) (by decide) (by decide) (by decide)
            refine g_iadd C (v := x_73) dX12_kin_73 hx_73 ?_
            obtain ⟨x_74, hx_74, rx_74⟩ := ex_any (z0 := I_13 b_1 (x_73.toNatClampNeg))
            refine h_iald C K hb_1L hb_1k (v := x_74) (x_73.toNatClampNeg) (rfl) (ix_0 rx_73 (by decide)) (ix_lt rx_73 (by decide) hb_1n (by decide)) hx_74 dX12_kin_74 ?_
            refine g_istore C dX12_kin_75 (by decide) (lo2 := [(7, .int x_74), (0, .ref x), (1, .int a0), (2, .int a1), (3, .int v_20), (4, .int v_21), (5, .int v_22), (6, .int v_23)]) rfl ?_
            refine g_iload C 0 dX12_kin_77 rfl ?_
            refine g_iconst C (v := (-1)) dX12_kin_79 (by decide) ?_
            refine g_icmp_ne C (tgt := 86) dX12_kin_80 (by decide) (fun h_75 => ?_) (fun h_75 => ?_)
            · skip
              have n_76 : ¬ x_74 = (-1) := h_75
              refine g_iload_n C 4 dX12_kin_86 rfl rfl ?_
              refine g_iload C 7 dX12_kin_87 rfl ?_
              refine g_callSI C K (c_X12_has W9 v_20 v_23  hU_15) s_12_231 rfl ⟨rfl, rfl⟩ ⟨Nat.le_of_ble_eq_true rfl, Nat.le_of_ble_eq_true rfl⟩ (Nat.le_of_ble_eq_true rfl) ⟨Nat.le_of_ble_eq_true rfl, Nat.le_of_ble_eq_true rfl⟩ dX12_kin_89 rfl (st := []) (fun x_77 I_78 J_79 h_80 => ?_)
              obtain ⟨rfl, rfl, rx_77, ex_77⟩ := h_80
              refine g_if_eq C (tgt := 104) dX12_kin_92 (by decide) (fun h_81 => ?_) (fun h_81 => ?_)
              · skip
                have r_82 := (⟨(rx_77).1, (eq_rg (h_81) rc_0).2⟩ : Rg 0 0 x_77)
                refine g_lo (is := [1, 2, 3, 4, 5, 6, 7, 0]) (lo2 := [(0, .ref x), (1, .int a0), (2, .int a1), (3, .int v_20), (4, .int v_21), (5, .int v_22), (6, .int v_23), (7, .int x_74)]) rfl ?_
                exact j_104 I_13 J_14 hU_15 hF_16 hG_17 (r_18) (r_19) v_20 v_21 (rv_21) v_22 v_23 (r_71) x_74 (n_76) q_24 hm_25 hm_26
              · skip
                have n_83 : ¬ x_77 = 0 := h_81
                have r_84 := ne_lo (lo := 1) n_83 rx_77 rc_0 rfl (by decide)
                refine g_iload C 6 dX12_kin_95 rfl ?_
                refine g_iconst C (v := 1) dX12_kin_97 (by decide) ?_
                refine g_iload C 0 dX12_kin_98 rfl ?_
                obtain ⟨x_85, hx_85, rx_85⟩ := ex_any (z0 := 1 <<< (x_74 &&& 31))
                refine g_ishl C (v := x_85) dX12_kin_100 hx_85 ?_
                obtain ⟨x_86, hx_86, rx_86⟩ := ex_any (z0 := v_22 ||| x_85)
                refine g_ior C (v := x_86) dX12_kin_101 hx_86 ?_
                refine g_istore C dX12_kin_102 (by decide) (lo2 := [(5, .int x_86), (7, .int x_74), (0, .ref x), (1, .int a0), (2, .int a1), (3, .int v_20), (4, .int v_21), (6, .int v_23)]) rfl ?_
                refine g_lo (is := [2, 3, 4, 5, 6, 0, 7, 1]) (lo2 := [(0, .ref x), (1, .int a0), (2, .int a1), (3, .int v_20), (4, .int v_21), (5, .int x_86), (6, .int v_23), (7, .int x_74)]) rfl ?_
                exact j_104 I_13 J_14 hU_15 hF_16 hG_17 (r_18) (r_19) v_20 v_21 (rv_21) x_86 v_23 (r_71) x_74 (n_76) q_24 hm_25 hm_26
            · skip
              have r_87 := (⟨(eq_rg (h_75) rc_m1).1, (eq_rg (h_75) rc_m1).2⟩ : Rg (-1) (-1) x_74)
              refine g_goto C (tgt := 122) dX12_kin_83 (by decide) ?_
              refine g_lo (is := [1, 2, 3, 4, 5, 6, 7, 0]) (lo2 := [(0, .ref x), (1, .int a0), (2, .int a1), (3, .int v_20), (4, .int v_21), (5, .int v_22), (6, .int v_23), (7, .int x_74)]) rfl ?_
              exact j_122 I_13 J_14 hU_15 hF_16 hG_17 (r_18) (r_19) v_20 v_21 (rv_21) v_22 v_23 (r_71) x_74 q_24 hm_25 hm_26
      refine g_iload C 4 dX12_kin_30 rfl ?_
      refine g_bipush C (v := 7) dX12_kin_32 (by decide) ?_
      refine g_icmp_ge C (tgt := 137) dX12_kin_34 (by decide) (fun h_88 => ?_) (fun h_88 => ?_)
      · skip
        have r_89 := le_r (h_88) rc_7 rv_10
        refine g_iconst C (v := (-1)) dX12_kin_137 (by decide) ?_
        exact g_zret (ty := .int) (r := (-1)) B K rfl (rfl) ⟨hU_4, hF_5, hG_6, rg_w rc_m1 (by decide) (by decide)⟩ dX12_kin_138
      · skip
        have r_90 := lt_l (hi := 6) (nle h_88) rv_10 rc_7 (by decide)
        refine g_iload_n C 3 dX12_kin_37 rfl rfl ?_
        refine g_iload_n C 2 dX12_kin_38 rfl rfl ?_
        refine g_callSI C K (c_X12_has W9 v_9 a1  hU_4) s_12_231 rfl ⟨rfl, rfl⟩ ⟨Nat.le_of_ble_eq_true rfl, Nat.le_of_ble_eq_true rfl⟩ (Nat.le_of_ble_eq_true rfl) ⟨Nat.le_of_ble_eq_true rfl, Nat.le_of_ble_eq_true rfl⟩ dX12_kin_39 rfl (st := []) (fun x_91 I_92 J_93 h_94 => ?_)
        obtain ⟨rfl, rfl, rx_91, ex_91⟩ := h_94
        refine g_if_eq C (tgt := 48) dX12_kin_42 (by decide) (fun h_95 => ?_) (fun h_95 => ?_)
        · skip
          have r_96 := (⟨(rx_91).1, (eq_rg (h_95) rc_0).2⟩ : Rg 0 0 x_91)
          refine g_iload_n C 3 dX12_kin_48 rfl rfl ?_
          refine g_istore C dX12_kin_49 (by decide) (lo2 := [(5, .int v_9), (0, .ref x), (1, .int a0), (2, .int a1), (3, .int v_9), (4, .int v_10)]) rfl ?_
          refine g_iconst C (v := 0) dX12_kin_51 (by decide) ?_
          refine g_istore C dX12_kin_52 (by decide) (lo2 := [(6, .int 0), (5, .int v_9), (0, .ref x), (1, .int a0), (2, .int a1), (3, .int v_9), (4, .int v_10)]) rfl ?_
          refine g_lo (is := [2, 3, 4, 5, 6, 1, 0]) (lo2 := [(0, .ref x), (1, .int a0), (2, .int a1), (3, .int v_9), (4, .int v_10), (5, .int v_9), (6, .int 0)]) rfl ?_
          exact l_54 8 I_2 J_3 hU_4 hF_5 hG_6 (r_7) (r_8) v_9 v_10 (r_90) v_9 0 (rg_w rc_0 (by decide) (by decide)) q_11 hm_12 (ms_s (a := 0) (b := 7) (N := 8) (rg_w rc_0 (by decide) (by decide)) (by decide))
        · skip
          have n_97 : ¬ x_91 = 0 := h_95
          have r_98 := ne_lo (lo := 1) n_97 rx_91 rc_0 rfl (by decide)
          refine g_iload C 4 dX12_kin_45 rfl ?_
          exact g_zret (ty := .int) (r := v_10) B K rfl (rfl) ⟨hU_4, hF_5, hG_6, rg_w r_90 (by decide) (by decide)⟩ dX12_kin_47
  refine g_aload_n C 0 dX12_kin_0 rfl rfl ?_
  refine g_iconst C (v := 0) dX12_kin_1 (by decide) ?_
  refine h_putI C K hLx hkx f_12_82 p_12_0 dX12_kin_2 (fun I_99 hI_99 => ?_)
  have hU_100 := iw_put W9 hU hI_99 (ro_o hkx (by decide)) (lo := (-2147483648)) (hi := 2147483647) (rfl) (rg_all _) rfl
  have hF_101 := fq_puto hF hI_99 hkx (by decide) (by decide)
  refine g_aload_n C 0 dX12_kin_5 rfl rfl ?_
  refine g_iload_n C 1 dX12_kin_6 rfl rfl ?_
  refine g_callVI C K (c_X12_isPerson W9 hLx hkx a0  hU_100) hLx hkx (by decide) rfl v_12_238 rfl ⟨rfl, rfl⟩ ⟨Nat.le_of_ble_eq_true rfl, Nat.le_of_ble_eq_true rfl⟩ (Nat.le_of_ble_eq_true rfl) ⟨Nat.le_of_ble_eq_true rfl, Nat.le_of_ble_eq_true rfl⟩ dX12_kin_7 rfl (st := []) (fun x_102 I_103 J_104 h_105 => ?_)
  obtain ⟨rfl, rfl, rx_102, ex_102⟩ := h_105
  refine g_if_eq C (tgt := 21) dX12_kin_10 (by decide) (fun h_106 => ?_) (fun h_106 => ?_)
  · skip
    have r_107 := (⟨(rx_102).1, (eq_rg (h_106) rc_0).2⟩ : Rg 0 0 x_102)
    refine g_iconst C (v := (-1)) dX12_kin_21 (by decide) ?_
    exact g_zret (ty := .int) (r := (-1)) B K rfl (rfl) ⟨hU_100, hF_101, hG, rg_w rc_m1 (by decide) (by decide)⟩ dX12_kin_22
  · skip
    have n_108 : ¬ x_102 = 0 := h_106
    have r_109 := ne_lo (lo := 1) n_108 rx_102 rc_0 rfl (by decide)
    have r_110 := rg_i (rg_all a0) ((ex_102) n_108) (lo := 0) (hi := 6) (by decide) (by decide)
    refine g_aload_n C 0 dX12_kin_13 rfl rfl ?_
    refine g_iload_n C 2 dX12_kin_14 rfl rfl ?_
    refine g_callVI C K (c_X12_isPerson W9 hLx hkx a1  hU_100) hLx hkx (by decide) rfl v_12_238 rfl ⟨rfl, rfl⟩ ⟨Nat.le_of_ble_eq_true rfl, Nat.le_of_ble_eq_true rfl⟩ (Nat.le_of_ble_eq_true rfl) ⟨Nat.le_of_ble_eq_true rfl, Nat.le_of_ble_eq_true rfl⟩ dX12_kin_15 rfl (st := []) (fun x_111 I_112 J_113 h_114 => ?_)
    obtain ⟨rfl, rfl, rx_111, ex_111⟩ := h_114
    refine g_if_ne C (tgt := 23) dX12_kin_18 (by decide) (fun h_115 => ?_) (fun h_115 => ?_)
    · skip
      have n_116 : ¬ x_111 = 0 := h_115
      have r_117 := ne_lo (lo := 1) n_116 rx_111 rc_0 rfl (by decide)
      have r_118 := rg_i (rg_all a1) ((ex_111) n_116) (lo := 0) (hi := 6) (by decide) (by decide)
      refine g_iconst C (v := 1) dX12_kin_23 (by decide) ?_
      refine g_iload_n C 1 dX12_kin_24 rfl rfl ?_
      obtain ⟨x_119, hx_119, rx_119⟩ := ex_shl (x := 1) (y := a0) 6 64 rfl (r_110) (by decide)
      refine g_ishl C (v := x_119) dX12_kin_25 hx_119 ?_
      refine g_istore_n C dX12_kin_26 rfl (by decide) (lo2 := [(3, .int x_119), (0, .ref x), (1, .int a0), (2, .int a1)]) rfl ?_
      refine g_iconst C (v := 0) dX12_kin_27 (by decide) ?_
      refine g_istore C dX12_kin_28 (by decide) (lo2 := [(4, .int 0), (3, .int x_119), (0, .ref x), (1, .int a0), (2, .int a1)]) rfl ?_
      refine g_lo (is := [2, 3, 4, 1, 0]) (lo2 := [(0, .ref x), (1, .int a0), (2, .int a1), (3, .int x_119), (4, .int 0)]) rfl ?_
      exact l_30 8 I_99 J hU_100 hF_101 hG (r_110) (r_118) x_119 0 (rg_w rc_0 (by decide) (by decide)) (kp_s hI_99) (ms_s (a := 0) (b := 7) (N := 8) (rg_w rc_0 (by decide) (by decide)) (by decide))
    · skip
      have r_120 := (⟨(rx_111).1, (eq_rg (h_115) rc_0).2⟩ : Rg 0 0 x_111)
      refine g_iconst C (v := (-1)) dX12_kin_21 (by decide) ?_
      exact g_zret (ty := .int) (r := (-1)) B K rfl (rfl) ⟨hU_100, hF_101, hG, rg_w rc_m1 (by decide) (by decide)⟩ dX12_kin_22
set_option maxRecDepth 100000 in
set_option maxHeartbeats 8000000 in
theorem c_X12_hungriest {l : Launch} {D : va_G} {cy : Nat → ClassId} {L : List Nat} {κ ln : Nat → Nat} {R : Nat → Nat → Option Nat} {I : Nat → Nat → Int32} {J : Nat → Nat → Int64} {ow : Nat → Nat × Nat} (W9 : ∀ a ∈ L, Shp L κ ln R ow a) {x : Nat} (hLx : x ∈ L) (hkx : κ x = 12) (hU : Iw L κ R ow I) : CtI l yX12_hungriest cX12_hungriest 3 (some .int) { frames := 2, cells := 0, slots := 0, locals := 42 } D cy L κ ln R I J [.ref x] (fun r I2 J2 => Iw L κ R ow I2 ∧ Fq L κ ow [1200] I I2 ∧ Fq L κ ow [] J J2 ∧ Rg (-1) 6 r) := by
  refine CtI.of (by decide +kernel) (Nat.le_of_ble_eq_true rfl) ?_
  intro p e s m below meth c B K
  have C := B.1
  have hF : Fq L κ ow [1200] I I := fq_rf
  have hG : Fq L κ ow [] J J := fq_rf
  obtain ⟨b_1, hb_1, hb_1L, hb_1k, hb_1n, hb_1o⟩ := shp_a (W9 x hLx) hkx 14 14 389 rfl (by decide)
  refine g_lo (is := [0]) (lo2 := [(0, .ref x)]) rfl ?_
  have l_9 : ∀ (n_9 : Nat) (I_2 : Nat → Nat → Int32) (J_3 : Nat → Nat → Int64) (hU_4 : Iw L κ R ow I_2) (hF_5 : Fq L κ ow [1200] I I_2) (hG_6 : Fq L κ ow [] J J_3) (v_7 : Int32) (rv_7 : Rg (-1) 6 v_7) (v_8 : Int32) (rv_8 : Rg 0 7 v_8) (q_9 : I_2 x 0 = 0) (hm_10 : 7 < (v_8 : Int32).toInt + (n_9 : Int)), WG p l e { frames := 2, cells := 0, slots := 0, locals := 42 } s m ([.ref x] : List Value).toArray below meth c 3 0 0 (MQ below (Qi_ D cy L κ ln R (fun r I2 J2 => Iw L κ R ow I2 ∧ Fq L κ ow [1200] I I2 ∧ Fq L κ ow [] J J2 ∧ Rg (-1) 6 r)) ([.ref x] : List Value).toArray s 0 0 (Al_ L)) D cy (Al_ L) s.heap L κ ln R I_2 J_3 9 [(0, .ref x), (1, .int v_7), (2, .int v_8)] [] := by
    intro n_9
    induction n_9 with
    | zero =>
      intro I_2 J_3 hU_4 hF_5 hG_6 v_7 rv_7 v_8 rv_8 q_9 hm_10
      exact ms_0 rv_8 hm_10
    | succ n_9 ih_9 =>
      intro I_2 J_3 hU_4 hF_5 hG_6 v_7 rv_7 v_8 rv_8 q_9 hm_10
      have j_55 : ∀ (I_11 : Nat → Nat → Int32) (J_12 : Nat → Nat → Int64) (hU_13 : Iw L κ R ow I_11) (hF_14 : Fq L κ ow [1200] I I_11) (hG_15 : Fq L κ ow [] J J_12) (v_16 : Int32) (rv_16 : Rg (-1) 6 v_16) (v_17 : Int32) (rv_17 : Rg 0 6 v_17) (q_18 : I_11 x 0 = 0) (hm_19 : 7 < (v_17 : Int32).toInt + ((n_9 + 1 : Nat) : Int)), WG p l e { frames := 2, cells := 0, slots := 0, locals := 42 } s m ([.ref x] : List Value).toArray below meth c 3 0 0 (MQ below (Qi_ D cy L κ ln R (fun r I2 J2 => Iw L κ R ow I2 ∧ Fq L κ ow [1200] I I2 ∧ Fq L κ ow [] J J2 ∧ Rg (-1) 6 r)) ([.ref x] : List Value).toArray s 0 0 (Al_ L)) D cy (Al_ L) s.heap L κ ln R I_11 J_12 55 [(0, .ref x), (1, .int v_16), (2, .int v_17)] [] := by
        intro I_11 J_12 hU_13 hF_14 hG_15 v_16 rv_16 v_17 rv_17 q_18 hm_19
        obtain ⟨x_20, hx_20, rx_20, tx_20⟩ := ex_add (y := 1) 1 7 rv_17 rc_1 (by decide) (by decide) (by decide) (by decide)
        refine g_iinc C dX12_hungriest_55 (k := 2) (v := x_20) rfl hx_20 (by decide) (lo2 := [(2, .int x_20), (0, .ref x), (1, .int v_16)]) rfl ?_
        refine g_goto C (tgt := 9) dX12_hungriest_58 (by decide) ?_
        refine g_lo (is := [1, 2, 0]) (lo2 := [(0, .ref x), (1, .int v_16), (2, .int x_20)]) rfl ?_
        exact ih_9 I_11 J_12 hU_13 hF_14 hG_15 v_16 (rv_16) x_20 (rg_w rx_20 (by decide) (by decide)) q_18 (ms_1 hm_19 (ti_k tx_20 rc_1) (by decide))
      have j_53 : ∀ (I_21 : Nat → Nat → Int32) (J_22 : Nat → Nat → Int64) (hU_23 : Iw L κ R ow I_21) (hF_24 : Fq L κ ow [1200] I I_21) (hG_25 : Fq L κ ow [] J J_22) (v_26 : Int32) (rv_26 : Rg (-1) 6 v_26) (v_27 : Int32) (rv_27 : Rg 0 6 v_27) (q_28 : I_21 x 0 = 0) (hm_29 : 7 < (v_27 : Int32).toInt + ((n_9 + 1 : Nat) : Int)), WG p l e { frames := 2, cells := 0, slots := 0, locals := 42 } s m ([.ref x] : List Value).toArray below meth c 3 0 0 (MQ below (Qi_ D cy L κ ln R (fun r I2 J2 => Iw L κ R ow I2 ∧ Fq L κ ow [1200] I I2 ∧ Fq L κ ow [] J J2 ∧ Rg (-1) 6 r)) ([.ref x] : List Value).toArray s 0 0 (Al_ L)) D cy (Al_ L) s.heap L κ ln R I_21 J_22 53 [(0, .ref x), (1, .int v_26), (2, .int v_27)] [] := by
        intro I_21 J_22 hU_23 hF_24 hG_25 v_26 rv_26 v_27 rv_27 q_28 hm_29
        refine g_iload_n C 2 dX12_hungriest_53 rfl rfl ?_
        refine g_istore_n C dX12_hungriest_54 rfl (by decide) (lo2 := [(1, .int v_27), (0, .ref x), (2, .int v_27)]) rfl ?_
        refine g_lo (is := [1, 0, 2]) (lo2 := [(0, .ref x), (1, .int v_27), (2, .int v_27)]) rfl ?_
        exact j_55 I_21 J_22 hU_23 hF_24 hG_25 v_27 (rg_w rv_27 (by decide) (by decide)) v_27 (rv_27) q_28 hm_29
      refine g_iload_n C 2 dX12_hungriest_9 rfl rfl ?_
      refine g_aload_n C 0 dX12_hungriest_10 rfl rfl ?_
      refine g_getR C K hLx hkx f_12_13 hb_1 dX12_hungriest_11 ?_
      refine g_iconst C (v := 0) dX12_hungriest_14 (by decide) ?_
      obtain ⟨x_30, hx_30, rx_30⟩ := ex_getw (I := I_2) (a := b_1) (j := 0) (lo := 0) (hi := 7) hU_4.1 hb_1L (ro_a hb_1k (by decide) hb_1o hkx rfl) (by decide)
      refine h_iald C K hb_1L hb_1k (v := x_30) (0) (by decide) (by decide) (by rw [hb_1n]; decide) hx_30 dX12_hungriest_15 ?_
      refine g_icmp_ge C (tgt := 61) dX12_hungriest_16 (by decide) (fun h_31 => ?_) (fun h_31 => ?_)
      · skip
        refine g_iload_n C 1 dX12_hungriest_61 rfl rfl ?_
        exact g_zret (ty := .int) (r := v_7) B K rfl (rfl) ⟨hU_4, hF_5, hG_6, rv_7⟩ dX12_hungriest_62
      · skip
        have r_32 := lt_l (hi := 6) (nle h_31) rv_8 rx_30 (by decide)
        have r_33 := lt_r (lo := 1) (nle h_31) rv_8 rx_30 (by decide)
        refine g_aload_n C 0 dX12_hungriest_19 rfl rfl ?_
        refine g_iload_n C 2 dX12_hungriest_20 rfl rfl ?_
        refine g_callVI C K (c_X12_isDead W9 hLx hkx v_8 (r_32) hU_4) hLx hkx (by decide) rfl v_12_244 rfl ⟨rfl, rfl⟩ ⟨Nat.le_of_ble_eq_true rfl, Nat.le_of_ble_eq_true rfl⟩ (Nat.le_of_ble_eq_true rfl) ⟨Nat.le_of_ble_eq_true rfl, Nat.le_of_ble_eq_true rfl⟩ dX12_hungriest_21 rfl (st := []) (fun x_34 I_35 J_36 h_37 => ?_)
        obtain ⟨rfl, rfl, rx_34⟩ := h_37
        refine g_if_ne C (tgt := 55) dX12_hungriest_24 (by decide) (fun h_38 => ?_) (fun h_38 => ?_)
        · skip
          have n_39 : ¬ x_34 = 0 := h_38
          have r_40 := ne_lo (lo := 1) n_39 rx_34 rc_0 rfl (by decide)
          refine g_lo (is := [0, 1, 2]) (lo2 := [(0, .ref x), (1, .int v_7), (2, .int v_8)]) rfl ?_
          exact j_55 I_2 J_3 hU_4 hF_5 hG_6 v_7 (rv_7) v_8 (r_32) q_9 hm_10
        · skip
          have r_41 := (⟨(rx_34).1, (eq_rg (h_38) rc_0).2⟩ : Rg 0 0 x_34)
          refine g_iload_n C 1 dX12_hungriest_27 rfl rfl ?_
          refine g_iconst C (v := (-1)) dX12_hungriest_28 (by decide) ?_
          refine g_icmp_eq C (tgt := 53) dX12_hungriest_29 (by decide) (fun h_42 => ?_) (fun h_42 => ?_)
          · skip
            have r_43 := (⟨(rv_7).1, (eq_rg (h_42) rc_m1).2⟩ : Rg (-1) (-1) v_7)
            refine g_lo (is := [0, 1, 2]) (lo2 := [(0, .ref x), (1, .int v_7), (2, .int v_8)]) rfl ?_
            exact j_53 I_2 J_3 hU_4 hF_5 hG_6 v_7 (rg_w r_43 (by decide) (by decide)) v_8 (r_32) q_9 hm_10
          · skip
            have n_44 : ¬ v_7 = (-1) := h_42
            have r_45 := ne_lo (lo := 0) n_44 rv_7 rc_m1 rfl (by decide)
            refine g_aload_n C 0 dX12_hungriest_32 rfl rfl ?_
            refine g_getR C K hLx hkx f_12_13 hb_1 dX12_hungriest_33 ?_
            refine g_bipush C (v := 98) dX12_hungriest_36 (by decide) ?_
            refine g_iload_n C 2 dX12_hungriest_38 rfl rfl ?_
            obtain ⟨x_46, hx_46, rx_46, tx_46⟩ := ex_add 98 104 rc_98 r_32 (by decide) (by decide) (by decide) (by decide)
            refine g_iadd C (v := x_46) dX12_hungriest_39 hx_46 ?_
            obtain ⟨x_47, hx_47, rx_47⟩ := ex_any (z0 := I_2 b_1 (x_46.toNatClampNeg))
            refine h_iald C K hb_1L hb_1k (v := x_47) (x_46.toNatClampNeg) (rfl) (ix_0 rx_46 (by decide)) (ix_lt rx_46 (by decide) hb_1n (by decide)) hx_47 dX12_hungriest_40 ?_
            refine g_aload_n C 0 dX12_hungriest_41 rfl rfl ?_
            refine g_getR C K hLx hkx f_12_13 hb_1 dX12_hungriest_42 ?_
            refine g_bipush C (v := 98) dX12_hungriest_45 (by decide) ?_
            refine g_iload_n C 1 dX12_hungriest_47 rfl rfl ?_
            obtain ⟨x_48, hx_48, rx_48, tx_48⟩ := ex_add 98 104 rc_98 r_45 (by decide) (by decide) (by decide) (by decide)
            refine g_iadd C (v := x_48) dX12_hungriest_48 hx_48 ?_
            obtain ⟨x_49, hx_49, rx_49⟩ := ex_any (z0 := I_2 b_1 (x_48.toNatClampNeg))
            refine h_iald C K hb_1L hb_1k (v := x_49) (x_48.toNatClampNeg) (rfl) (ix_0 rx_48 (by decide)) (ix_lt rx_48 (by decide) hb_1n (by decide)) hx_49 dX12_hungriest_49 ?_
            refine g_icmp_le C (tgt := 55) dX12_hungriest_50 (by decide) (fun h_50 => ?_) (fun h_50 => ?_)
            · skip
              refine g_lo (is := [0, 1, 2]) (lo2 := [(0, .ref x), (1, .int v_7), (2, .int v_8)]) rfl ?_
              exact j_55 I_2 J_3 hU_4 hF_5 hG_6 v_7 (rg_w r_45 (by decide) (by decide)) v_8 (r_32) q_9 hm_10
            · skip
              have r_51 := lt_l (hi := 2147483646) (nle h_50) rx_49 rx_47 (by decide)
              have r_52 := lt_r (lo := (-2147483647)) (nle h_50) rx_49 rx_47 (by decide)
              refine g_lo (is := [0, 1, 2]) (lo2 := [(0, .ref x), (1, .int v_7), (2, .int v_8)]) rfl ?_
              exact j_53 I_2 J_3 hU_4 hF_5 hG_6 v_7 (rg_w r_45 (by decide) (by decide)) v_8 (r_32) q_9 hm_10
  refine g_aload_n C 0 dX12_hungriest_0 rfl rfl ?_
  refine g_iconst C (v := 0) dX12_hungriest_1 (by decide) ?_
  refine h_putI C K hLx hkx f_12_82 p_12_0 dX12_hungriest_2 (fun I_53 hI_53 => ?_)
  have hU_54 := iw_put W9 hU hI_53 (ro_o hkx (by decide)) (lo := (-2147483648)) (hi := 2147483647) (rfl) (rg_all _) rfl
  have hF_55 := fq_puto hF hI_53 hkx (by decide) (by decide)
  refine g_iconst C (v := (-1)) dX12_hungriest_5 (by decide) ?_
  refine g_istore_n C dX12_hungriest_6 rfl (by decide) (lo2 := [(1, .int (-1)), (0, .ref x)]) rfl ?_
  refine g_iconst C (v := 0) dX12_hungriest_7 (by decide) ?_
  refine g_istore_n C dX12_hungriest_8 rfl (by decide) (lo2 := [(2, .int 0), (1, .int (-1)), (0, .ref x)]) rfl ?_
  refine g_lo (is := [2, 1, 0]) (lo2 := [(0, .ref x), (1, .int (-1)), (2, .int 0)]) rfl ?_
  exact l_9 8 I_53 J hU_54 hF_55 hG (-1) (rg_w rc_m1 (by decide) (by decide)) 0 (rg_w rc_0 (by decide) (by decide)) (kp_s hI_53) (ms_s (a := 0) (b := 7) (N := 8) (rg_w rc_0 (by decide) (by decide)) (by decide))
set_option maxRecDepth 100000 in
set_option maxHeartbeats 8000000 in
theorem c_X12_write {l : Launch} {D : va_G} {cy : Nat → ClassId} {L : List Nat} {κ ln : Nat → Nat} {R : Nat → Nat → Option Nat} {I : Nat → Nat → Int32} {J : Nat → Nat → Int64} {ow : Nat → Nat × Nat} (W9 : ∀ a ∈ L, Shp L κ ln R ow a) {x : Nat} (hLx : x ∈ L) (hkx : κ x = 12) (a0 : Int32) (hU : Iw L κ R ow I) (hp0 : Rg 0 63 (I x 40)) : CtV l yX12_write cX12_write 2 none { frames := 0, cells := 0, slots := 0, locals := 0 } D cy L κ ln R I J [.ref x, .int a0] (fun I2 J2 => Iw L κ R ow I2 ∧ Fq L κ ow [1240, 85900] I I2 ∧ Fq L κ ow [] J J2 ∧ ((I x 40).toInt + 1 ≤ (I2 x 40).toInt ∧ (I2 x 40).toInt ≤ (I x 40).toInt + 1)) := by
  refine CtV.of (by decide +kernel) (Nat.le_of_ble_eq_true rfl) ?_
  intro p e s m below meth c B K
  have C := B.1
  have hF : Fq L κ ow [1240, 85900] I I := fq_rf
  have hG : Fq L κ ow [] J J := fq_rf
  obtain ⟨xp0, hxp0, rxp0⟩ : ∃ z, I x 40 = z ∧ Rg 0 63 z := ⟨_, rfl, hp0⟩
  obtain ⟨b_1, hb_1, hb_1L, hb_1k, hb_1n, hb_1o⟩ := shp_a (W9 x hLx) hkx 39 14 64 rfl (by decide)
  refine g_lo (is := [0, 1]) (lo2 := [(0, .ref x), (1, .int a0)]) rfl ?_
  refine g_aload_n C 0 dX12_write_0 rfl rfl ?_
  refine g_getR C K hLx hkx f_12_70 hb_1 dX12_write_1 ?_
  refine g_aload_n C 0 dX12_write_4 rfl rfl ?_
  refine g_getI C K hLx hkx f_12_335 (v := xp0) hxp0 dX12_write_5 ?_
  refine g_iload_n C 1 dX12_write_8 rfl rfl ?_
  refine h_iast C K hb_1L hb_1k (xp0.toNatClampNeg) (rfl) (ix_0 rxp0 (by decide)) (ix_lt rxp0 (by decide) hb_1n (by decide)) dX12_write_9 (fun I_2 hI_2 => ?_)
  have hU_3 := iw_put W9 hU hI_2 (ro_a hb_1k (by decide) hb_1o hkx rfl) (lo := (-2147483648)) (hi := 2147483647) (rfl) ((rg_all a0)) rfl
  have hF_4 := fq_puta hF hI_2 (ro_a hb_1k (by decide) hb_1o hkx rfl) (by decide) (by decide)
  refine g_aload_n C 0 dX12_write_10 rfl rfl ?_
  refine g_dup C dX12_write_11 rfl ?_
  refine g_getI C K hLx hkx f_12_335 (v := xp0) (kp_k (κ := κ) hI_2 (by rw [hkx, hb_1k]; decide) hxp0) dX12_write_12 ?_
  refine g_iconst C (v := 1) dX12_write_15 (by decide) ?_
  obtain ⟨x_5, hx_5, rx_5, tx_5⟩ := ex_add 1 64 rxp0 rc_1 (by decide) (by decide) (by decide) (by decide)
  refine g_iadd C (v := x_5) dX12_write_16 hx_5 ?_
  refine h_putI C K hLx hkx f_12_335 p_12_40 dX12_write_17 (fun I_6 hI_6 => ?_)
  have hU_7 := iw_put W9 hU_3 hI_6 (ro_o hkx (by decide)) (lo := 0) (hi := 64) (rfl) (rg_w rx_5 (by decide) (by decide)) rfl
  have hF_8 := fq_puto hF_4 hI_6 hkx (by decide) (by decide)
  exact g_vret B K rfl ⟨hU_7, hF_8, hG, (tx_m hxp0 (kp_s hI_6) ⟨by have := (ti_k tx_5 rc_1); omega, by have := (ti_k tx_5 rc_1); omega⟩)⟩ dX12_write_20
set_option maxRecDepth 100000 in
set_option maxHeartbeats 8000000 in
theorem c_X12_writeWord_1 {l : Launch} {D : va_G} {cy : Nat → ClassId} {L : List Nat} {κ ln : Nat → Nat} {R : Nat → Nat → Option Nat} {I : Nat → Nat → Int32} {J : Nat → Nat → Int64} {ow : Nat → Nat × Nat} (W9 : ∀ a ∈ L, Shp L κ ln R ow a) {x : Nat} (hLx : x ∈ L) (hkx : κ x = 12) (a0 : Int64) (hU : Iw L κ R ow I) (hp0 : Rg 0 63 (I x 40)) (hw : a0.toInt < (27 : Int)) : CtV l yX12_writeWord cX12_writeWord 3 none { frames := 1, cells := 0, slots := 0, locals := 21 } D cy L κ ln R I J [.ref x, .long a0] (fun I2 J2 => Iw L κ R ow I2 ∧ Fq L κ ow [1240, 85900] I I2 ∧ Fq L κ ow [] J J2 ∧ ((I x 40).toInt + 1 ≤ (I2 x 40).toInt ∧ (I2 x 40).toInt ≤ (I x 40).toInt + 1)) := by
  refine CtV.of (by decide +kernel) (Nat.le_of_ble_eq_true rfl) ?_
  intro p e s m below meth c B K
  have C := B.1
  have hF : Fq L κ ow [1240, 85900] I I := fq_rf
  have hG : Fq L κ ow [] J J := fq_rf
  obtain ⟨xp0, hxp0, rxp0⟩ : ∃ z, I x 40 = z ∧ Rg 0 63 z := ⟨_, rfl, hp0⟩
  refine g_lo (is := [0, 1]) (lo2 := [(0, .ref x), (1, .long a0)]) rfl ?_
  refine g_lload_n C 1 dX12_writeWord_0 rfl rfl ?_
  refine g_ldc2 C kl_128 dX12_writeWord_1 ?_
  refine g_lcmpO C dX12_writeWord_4 (fun x_1 rx_1 qx_1 => ?_)
  refine g_if_lt C (tgt := 17) dX12_writeWord_5 (by decide) (fun h_2 => ?_) (fun h_2 => ?_)
  · skip
    have r_3 := lt_l (hi := (-1)) (h_2) rx_1 rc_0 (by decide)
    refine g_aload_n C 0 dX12_writeWord_17 rfl rfl ?_
    refine g_bipush C (v := 96) dX12_writeWord_18 (by decide) ?_
    refine g_lload_n C 1 dX12_writeWord_20 rfl rfl ?_
    refine g_ldc2 C kl_128 dX12_writeWord_21 ?_
    refine g_lrem C dX12_writeWord_24 (by decide) (fun y_4 => ?_)
    obtain ⟨x_5, hx_5, rx_5⟩ := ex_any (z0 := Int64.toInt32 y_4)
    refine g_l2i C (v := x_5) dX12_writeWord_25 hx_5 ?_
    obtain ⟨x_6, hx_6, rx_6⟩ := ex_any (z0 := 96 + x_5)
    refine g_iadd C (v := x_6) dX12_writeWord_26 hx_6 ?_
    refine g_callVV C K (c_X12_write W9 hLx hkx x_6  hU  (eq_rg hxp0 (rxp0))) hLx hkx (by decide) rfl v_12_342 rfl ⟨rfl, rfl⟩ ⟨Nat.le_of_ble_eq_true rfl, Nat.le_of_ble_eq_true rfl⟩ (Nat.le_of_ble_eq_true rfl) ⟨Nat.le_of_ble_eq_true rfl, Nat.le_of_ble_eq_true rfl⟩ dX12_writeWord_27 rfl (st := []) (fun I_8 J_9 h_10 => ?_)
    obtain ⟨hUI_8, hFI_8, hGJ_9, ex_7⟩ := h_10
    have hF_11 := fq_tr hF hFI_8 (by decide)
    have hG_12 := fq_tr hG hGJ_9 (by decide)
    obtain ⟨x_13, hx_13, rx_13, tx_13, ux_13⟩ := tx_b (lo := 1) (hi := 64) ex_7 hxp0 rxp0 (by decide) (by decide)
    exact g_vret B K rfl ⟨hUI_8, hF_11, hG_12, (tx_m hxp0 hx_13 ⟨by omega, by omega⟩)⟩ dX12_writeWord_30
  · skip
    have r_14 := le_r (nlt h_2) rc_0 rx_1
    exact absurd (qx_1 (nlt h_2)) (by rw [show (27 : Int64).toInt = 27 from by decide]; omega)
set_option maxRecDepth 100000 in
set_option maxHeartbeats 8000000 in
theorem c_X12_writeWord_2 {l : Launch} {D : va_G} {cy : Nat → ClassId} {L : List Nat} {κ ln : Nat → Nat} {R : Nat → Nat → Option Nat} {I : Nat → Nat → Int32} {J : Nat → Nat → Int64} {ow : Nat → Nat × Nat} (W9 : ∀ a ∈ L, Shp L κ ln R ow a) {x : Nat} (hLx : x ∈ L) (hkx : κ x = 12) (a0 : Int64) (hU : Iw L κ R ow I) (hp0 : Rg 0 62 (I x 40)) (hw : a0.toInt < (729 : Int)) : CtV l yX12_writeWord cX12_writeWord 3 none { frames := 2, cells := 0, slots := 0, locals := 43 } D cy L κ ln R I J [.ref x, .long a0] (fun I2 J2 => Iw L κ R ow I2 ∧ Fq L κ ow [1240, 85900] I I2 ∧ Fq L κ ow [] J J2 ∧ ((I x 40).toInt + 1 ≤ (I2 x 40).toInt ∧ (I2 x 40).toInt ≤ (I x 40).toInt + 2)) := by
  refine CtV.of (by decide +kernel) (Nat.le_of_ble_eq_true rfl) ?_
  intro p e s m below meth c B K
  have C := B.1
  have hF : Fq L κ ow [1240, 85900] I I := fq_rf
  have hG : Fq L κ ow [] J J := fq_rf
  obtain ⟨xp0, hxp0, rxp0⟩ : ∃ z, I x 40 = z ∧ Rg 0 62 z := ⟨_, rfl, hp0⟩
  refine g_lo (is := [0, 1]) (lo2 := [(0, .ref x), (1, .long a0)]) rfl ?_
  refine g_lload_n C 1 dX12_writeWord_0 rfl rfl ?_
  refine g_ldc2 C kl_128 dX12_writeWord_1 ?_
  refine g_lcmpO C dX12_writeWord_4 (fun x_1 rx_1 qx_1 => ?_)
  refine g_if_lt C (tgt := 17) dX12_writeWord_5 (by decide) (fun h_2 => ?_) (fun h_2 => ?_)
  · skip
    have r_3 := lt_l (hi := (-1)) (h_2) rx_1 rc_0 (by decide)
    refine g_aload_n C 0 dX12_writeWord_17 rfl rfl ?_
    refine g_bipush C (v := 96) dX12_writeWord_18 (by decide) ?_
    refine g_lload_n C 1 dX12_writeWord_20 rfl rfl ?_
    refine g_ldc2 C kl_128 dX12_writeWord_21 ?_
    refine g_lrem C dX12_writeWord_24 (by decide) (fun y_4 => ?_)
    obtain ⟨x_5, hx_5, rx_5⟩ := ex_any (z0 := Int64.toInt32 y_4)
    refine g_l2i C (v := x_5) dX12_writeWord_25 hx_5 ?_
    obtain ⟨x_6, hx_6, rx_6⟩ := ex_any (z0 := 96 + x_5)
    refine g_iadd C (v := x_6) dX12_writeWord_26 hx_6 ?_
    refine g_callVV C K (c_X12_write W9 hLx hkx x_6  hU  (eq_rg hxp0 (rg_w rxp0 (by decide) (by decide)))) hLx hkx (by decide) rfl v_12_342 rfl ⟨rfl, rfl⟩ ⟨Nat.le_of_ble_eq_true rfl, Nat.le_of_ble_eq_true rfl⟩ (Nat.le_of_ble_eq_true rfl) ⟨Nat.le_of_ble_eq_true rfl, Nat.le_of_ble_eq_true rfl⟩ dX12_writeWord_27 rfl (st := []) (fun I_8 J_9 h_10 => ?_)
    obtain ⟨hUI_8, hFI_8, hGJ_9, ex_7⟩ := h_10
    have hF_11 := fq_tr hF hFI_8 (by decide)
    have hG_12 := fq_tr hG hGJ_9 (by decide)
    obtain ⟨x_13, hx_13, rx_13, tx_13, ux_13⟩ := tx_b (lo := 1) (hi := 63) ex_7 hxp0 rxp0 (by decide) (by decide)
    exact g_vret B K rfl ⟨hUI_8, hF_11, hG_12, (tx_m hxp0 hx_13 ⟨by omega, by omega⟩)⟩ dX12_writeWord_30
  · skip
    have r_14 := le_r (nlt h_2) rc_0 rx_1
    refine g_aload_n C 0 dX12_writeWord_8 rfl rfl ?_
    refine g_lload_n C 1 dX12_writeWord_9 rfl rfl ?_
    refine g_ldc2 C kl_128 dX12_writeWord_10 ?_
    obtain ⟨y_15, hy_15⟩ : ∃ z, a0 / 27 = z := ⟨_, rfl⟩
    refine g_ldivE C (v := y_15) dX12_writeWord_13 (by decide) hy_15 ?_
    refine g_callVV C K (c_X12_writeWord_1 W9 hLx hkx y_15  hU  (eq_rg hxp0 (rg_w rxp0 (by decide) (by decide))) (ld_27 (k := 729) (qx_1 (nlt h_2)) hy_15 hw (by decide))) hLx hkx (by decide) rfl v_12_338 rfl ⟨rfl, rfl⟩ ⟨Nat.le_of_ble_eq_true rfl, Nat.le_of_ble_eq_true rfl⟩ (Nat.le_of_ble_eq_true rfl) ⟨Nat.le_of_ble_eq_true rfl, Nat.le_of_ble_eq_true rfl⟩ dX12_writeWord_14 rfl (st := []) (fun I_17 J_18 h_19 => ?_)
    obtain ⟨hUI_17, hFI_17, hGJ_18, ex_16⟩ := h_19
    have hF_20 := fq_tr hF hFI_17 (by decide)
    have hG_21 := fq_tr hG hGJ_18 (by decide)
    obtain ⟨x_22, hx_22, rx_22, tx_22, ux_22⟩ := tx_b (lo := 1) (hi := 63) ex_16 hxp0 rxp0 (by decide) (by decide)
    refine g_aload_n C 0 dX12_writeWord_17 rfl rfl ?_
    refine g_bipush C (v := 96) dX12_writeWord_18 (by decide) ?_
    refine g_lload_n C 1 dX12_writeWord_20 rfl rfl ?_
    refine g_ldc2 C kl_128 dX12_writeWord_21 ?_
    refine g_lrem C dX12_writeWord_24 (by decide) (fun y_23 => ?_)
    obtain ⟨x_24, hx_24, rx_24⟩ := ex_any (z0 := Int64.toInt32 y_23)
    refine g_l2i C (v := x_24) dX12_writeWord_25 hx_24 ?_
    obtain ⟨x_25, hx_25, rx_25⟩ := ex_any (z0 := 96 + x_24)
    refine g_iadd C (v := x_25) dX12_writeWord_26 hx_25 ?_
    refine g_callVV C K (c_X12_write W9 hLx hkx x_25  hUI_17  (eq_rg hx_22 (rg_w rx_22 (by decide) (by decide)))) hLx hkx (by decide) rfl v_12_342 rfl ⟨rfl, rfl⟩ ⟨Nat.le_of_ble_eq_true rfl, Nat.le_of_ble_eq_true rfl⟩ (Nat.le_of_ble_eq_true rfl) ⟨Nat.le_of_ble_eq_true rfl, Nat.le_of_ble_eq_true rfl⟩ dX12_writeWord_27 rfl (st := []) (fun I_27 J_28 h_29 => ?_)
    obtain ⟨hUI_27, hFI_27, hGJ_28, ex_26⟩ := h_29
    have hF_30 := fq_tr hF_20 hFI_27 (by decide)
    have hG_31 := fq_tr hG_21 hGJ_28 (by decide)
    obtain ⟨x_32, hx_32, rx_32, tx_32, ux_32⟩ := tx_b (lo := 2) (hi := 64) ex_26 hx_22 rx_22 (by decide) (by decide)
    exact g_vret B K rfl ⟨hUI_27, hF_30, hG_31, (tx_m hxp0 hx_32 ⟨by omega, by omega⟩)⟩ dX12_writeWord_30
set_option maxRecDepth 100000 in
set_option maxHeartbeats 8000000 in
theorem c_X12_writeWord_3 {l : Launch} {D : va_G} {cy : Nat → ClassId} {L : List Nat} {κ ln : Nat → Nat} {R : Nat → Nat → Option Nat} {I : Nat → Nat → Int32} {J : Nat → Nat → Int64} {ow : Nat → Nat × Nat} (W9 : ∀ a ∈ L, Shp L κ ln R ow a) {x : Nat} (hLx : x ∈ L) (hkx : κ x = 12) (a0 : Int64) (hU : Iw L κ R ow I) (hp0 : Rg 0 61 (I x 40)) (hw : a0.toInt < (19683 : Int)) : CtV l yX12_writeWord cX12_writeWord 3 none { frames := 3, cells := 0, slots := 0, locals := 65 } D cy L κ ln R I J [.ref x, .long a0] (fun I2 J2 => Iw L κ R ow I2 ∧ Fq L κ ow [1240, 85900] I I2 ∧ Fq L κ ow [] J J2 ∧ ((I x 40).toInt + 1 ≤ (I2 x 40).toInt ∧ (I2 x 40).toInt ≤ (I x 40).toInt + 3)) := by
  refine CtV.of (by decide +kernel) (Nat.le_of_ble_eq_true rfl) ?_
  intro p e s m below meth c B K
  have C := B.1
  have hF : Fq L κ ow [1240, 85900] I I := fq_rf
  have hG : Fq L κ ow [] J J := fq_rf
  obtain ⟨xp0, hxp0, rxp0⟩ : ∃ z, I x 40 = z ∧ Rg 0 61 z := ⟨_, rfl, hp0⟩
  refine g_lo (is := [0, 1]) (lo2 := [(0, .ref x), (1, .long a0)]) rfl ?_
  refine g_lload_n C 1 dX12_writeWord_0 rfl rfl ?_
  refine g_ldc2 C kl_128 dX12_writeWord_1 ?_
  refine g_lcmpO C dX12_writeWord_4 (fun x_1 rx_1 qx_1 => ?_)
  refine g_if_lt C (tgt := 17) dX12_writeWord_5 (by decide) (fun h_2 => ?_) (fun h_2 => ?_)
  · skip
    have r_3 := lt_l (hi := (-1)) (h_2) rx_1 rc_0 (by decide)
    refine g_aload_n C 0 dX12_writeWord_17 rfl rfl ?_
    refine g_bipush C (v := 96) dX12_writeWord_18 (by decide) ?_
    refine g_lload_n C 1 dX12_writeWord_20 rfl rfl ?_
    refine g_ldc2 C kl_128 dX12_writeWord_21 ?_
    refine g_lrem C dX12_writeWord_24 (by decide) (fun y_4 => ?_)
    obtain ⟨x_5, hx_5, rx_5⟩ := ex_any (z0 := Int64.toInt32 y_4)
    refine g_l2i C (v := x_5) dX12_writeWord_25 hx_5 ?_
    obtain ⟨x_6, hx_6, rx_6⟩ := ex_any (z0 := 96 + x_5)
    refine g_iadd C (v := x_6) dX12_writeWord_26 hx_6 ?_
    refine g_callVV C K (c_X12_write W9 hLx hkx x_6  hU  (eq_rg hxp0 (rg_w rxp0 (by decide) (by decide)))) hLx hkx (by decide) rfl v_12_342 rfl ⟨rfl, rfl⟩ ⟨Nat.le_of_ble_eq_true rfl, Nat.le_of_ble_eq_true rfl⟩ (Nat.le_of_ble_eq_true rfl) ⟨Nat.le_of_ble_eq_true rfl, Nat.le_of_ble_eq_true rfl⟩ dX12_writeWord_27 rfl (st := []) (fun I_8 J_9 h_10 => ?_)
    obtain ⟨hUI_8, hFI_8, hGJ_9, ex_7⟩ := h_10
    have hF_11 := fq_tr hF hFI_8 (by decide)
    have hG_12 := fq_tr hG hGJ_9 (by decide)
    obtain ⟨x_13, hx_13, rx_13, tx_13, ux_13⟩ := tx_b (lo := 1) (hi := 62) ex_7 hxp0 rxp0 (by decide) (by decide)
    exact g_vret B K rfl ⟨hUI_8, hF_11, hG_12, (tx_m hxp0 hx_13 ⟨by omega, by omega⟩)⟩ dX12_writeWord_30
  · skip
    have r_14 := le_r (nlt h_2) rc_0 rx_1
    refine g_aload_n C 0 dX12_writeWord_8 rfl rfl ?_
    refine g_lload_n C 1 dX12_writeWord_9 rfl rfl ?_
    refine g_ldc2 C kl_128 dX12_writeWord_10 ?_
    obtain ⟨y_15, hy_15⟩ : ∃ z, a0 / 27 = z := ⟨_, rfl⟩
    refine g_ldivE C (v := y_15) dX12_writeWord_13 (by decide) hy_15 ?_
    refine g_callVV C K (c_X12_writeWord_2 W9 hLx hkx y_15  hU  (eq_rg hxp0 (rg_w rxp0 (by decide) (by decide))) (ld_27 (k := 19683) (qx_1 (nlt h_2)) hy_15 hw (by decide))) hLx hkx (by decide) rfl v_12_338 rfl ⟨rfl, rfl⟩ ⟨Nat.le_of_ble_eq_true rfl, Nat.le_of_ble_eq_true rfl⟩ (Nat.le_of_ble_eq_true rfl) ⟨Nat.le_of_ble_eq_true rfl, Nat.le_of_ble_eq_true rfl⟩ dX12_writeWord_14 rfl (st := []) (fun I_17 J_18 h_19 => ?_)
    obtain ⟨hUI_17, hFI_17, hGJ_18, ex_16⟩ := h_19
    have hF_20 := fq_tr hF hFI_17 (by decide)
    have hG_21 := fq_tr hG hGJ_18 (by decide)
    obtain ⟨x_22, hx_22, rx_22, tx_22, ux_22⟩ := tx_b (lo := 1) (hi := 63) ex_16 hxp0 rxp0 (by decide) (by decide)
    refine g_aload_n C 0 dX12_writeWord_17 rfl rfl ?_
    refine g_bipush C (v := 96) dX12_writeWord_18 (by decide) ?_
    refine g_lload_n C 1 dX12_writeWord_20 rfl rfl ?_
    refine g_ldc2 C kl_128 dX12_writeWord_21 ?_
    refine g_lrem C dX12_writeWord_24 (by decide) (fun y_23 => ?_)
    obtain ⟨x_24, hx_24, rx_24⟩ := ex_any (z0 := Int64.toInt32 y_23)
    refine g_l2i C (v := x_24) dX12_writeWord_25 hx_24 ?_
    obtain ⟨x_25, hx_25, rx_25⟩ := ex_any (z0 := 96 + x_24)
    refine g_iadd C (v := x_25) dX12_writeWord_26 hx_25 ?_
    refine g_callVV C K (c_X12_write W9 hLx hkx x_25  hUI_17  (eq_rg hx_22 (rg_w rx_22 (by decide) (by decide)))) hLx hkx (by decide) rfl v_12_342 rfl ⟨rfl, rfl⟩ ⟨Nat.le_of_ble_eq_true rfl, Nat.le_of_ble_eq_true rfl⟩ (Nat.le_of_ble_eq_true rfl) ⟨Nat.le_of_ble_eq_true rfl, Nat.le_of_ble_eq_true rfl⟩ dX12_writeWord_27 rfl (st := []) (fun I_27 J_28 h_29 => ?_)
    obtain ⟨hUI_27, hFI_27, hGJ_28, ex_26⟩ := h_29
    have hF_30 := fq_tr hF_20 hFI_27 (by decide)
    have hG_31 := fq_tr hG_21 hGJ_28 (by decide)
    obtain ⟨x_32, hx_32, rx_32, tx_32, ux_32⟩ := tx_b (lo := 2) (hi := 64) ex_26 hx_22 rx_22 (by decide) (by decide)
    exact g_vret B K rfl ⟨hUI_27, hF_30, hG_31, (tx_m hxp0 hx_32 ⟨by omega, by omega⟩)⟩ dX12_writeWord_30
set_option maxRecDepth 100000 in
set_option maxHeartbeats 8000000 in
theorem c_X12_writeWord_4 {l : Launch} {D : va_G} {cy : Nat → ClassId} {L : List Nat} {κ ln : Nat → Nat} {R : Nat → Nat → Option Nat} {I : Nat → Nat → Int32} {J : Nat → Nat → Int64} {ow : Nat → Nat × Nat} (W9 : ∀ a ∈ L, Shp L κ ln R ow a) {x : Nat} (hLx : x ∈ L) (hkx : κ x = 12) (a0 : Int64) (hU : Iw L κ R ow I) (hp0 : Rg 0 60 (I x 40)) (hw : a0.toInt < (531441 : Int)) : CtV l yX12_writeWord cX12_writeWord 3 none { frames := 4, cells := 0, slots := 0, locals := 87 } D cy L κ ln R I J [.ref x, .long a0] (fun I2 J2 => Iw L κ R ow I2 ∧ Fq L κ ow [1240, 85900] I I2 ∧ Fq L κ ow [] J J2 ∧ ((I x 40).toInt + 1 ≤ (I2 x 40).toInt ∧ (I2 x 40).toInt ≤ (I x 40).toInt + 4)) := by
  refine CtV.of (by decide +kernel) (Nat.le_of_ble_eq_true rfl) ?_
  intro p e s m below meth c B K
  have C := B.1
  have hF : Fq L κ ow [1240, 85900] I I := fq_rf
  have hG : Fq L κ ow [] J J := fq_rf
  obtain ⟨xp0, hxp0, rxp0⟩ : ∃ z, I x 40 = z ∧ Rg 0 60 z := ⟨_, rfl, hp0⟩
  refine g_lo (is := [0, 1]) (lo2 := [(0, .ref x), (1, .long a0)]) rfl ?_
  refine g_lload_n C 1 dX12_writeWord_0 rfl rfl ?_
  refine g_ldc2 C kl_128 dX12_writeWord_1 ?_
  refine g_lcmpO C dX12_writeWord_4 (fun x_1 rx_1 qx_1 => ?_)
  refine g_if_lt C (tgt := 17) dX12_writeWord_5 (by decide) (fun h_2 => ?_) (fun h_2 => ?_)
  · skip
    have r_3 := lt_l (hi := (-1)) (h_2) rx_1 rc_0 (by decide)
    refine g_aload_n C 0 dX12_writeWord_17 rfl rfl ?_
    refine g_bipush C (v := 96) dX12_writeWord_18 (by decide) ?_
    refine g_lload_n C 1 dX12_writeWord_20 rfl rfl ?_
    refine g_ldc2 C kl_128 dX12_writeWord_21 ?_
    refine g_lrem C dX12_writeWord_24 (by decide) (fun y_4 => ?_)
    obtain ⟨x_5, hx_5, rx_5⟩ := ex_any (z0 := Int64.toInt32 y_4)
    refine g_l2i C (v := x_5) dX12_writeWord_25 hx_5 ?_
    obtain ⟨x_6, hx_6, rx_6⟩ := ex_any (z0 := 96 + x_5)
    refine g_iadd C (v := x_6) dX12_writeWord_26 hx_6 ?_
    refine g_callVV C K (c_X12_write W9 hLx hkx x_6  hU  (eq_rg hxp0 (rg_w rxp0 (by decide) (by decide)))) hLx hkx (by decide) rfl v_12_342 rfl ⟨rfl, rfl⟩ ⟨Nat.le_of_ble_eq_true rfl, Nat.le_of_ble_eq_true rfl⟩ (Nat.le_of_ble_eq_true rfl) ⟨Nat.le_of_ble_eq_true rfl, Nat.le_of_ble_eq_true rfl⟩ dX12_writeWord_27 rfl (st := []) (fun I_8 J_9 h_10 => ?_)
    obtain ⟨hUI_8, hFI_8, hGJ_9, ex_7⟩ := h_10
    have hF_11 := fq_tr hF hFI_8 (by decide)
    have hG_12 := fq_tr hG hGJ_9 (by decide)
    obtain ⟨x_13, hx_13, rx_13, tx_13, ux_13⟩ := tx_b (lo := 1) (hi := 61) ex_7 hxp0 rxp0 (by decide) (by decide)
    exact g_vret B K rfl ⟨hUI_8, hF_11, hG_12, (tx_m hxp0 hx_13 ⟨by omega, by omega⟩)⟩ dX12_writeWord_30
  · skip
    have r_14 := le_r (nlt h_2) rc_0 rx_1
    refine g_aload_n C 0 dX12_writeWord_8 rfl rfl ?_
    refine g_lload_n C 1 dX12_writeWord_9 rfl rfl ?_
    refine g_ldc2 C kl_128 dX12_writeWord_10 ?_
    obtain ⟨y_15, hy_15⟩ : ∃ z, a0 / 27 = z := ⟨_, rfl⟩
    refine g_ldivE C (v := y_15) dX12_writeWord_13 (by decide) hy_15 ?_
    refine g_callVV C K (c_X12_writeWord_3 W9 hLx hkx y_15  hU  (eq_rg hxp0 (rg_w rxp0 (by decide) (by decide))) (ld_27 (k := 531441) (qx_1 (nlt h_2)) hy_15 hw (by decide))) hLx hkx (by decide) rfl v_12_338 rfl ⟨rfl, rfl⟩ ⟨Nat.le_of_ble_eq_true rfl, Nat.le_of_ble_eq_true rfl⟩ (Nat.le_of_ble_eq_true rfl) ⟨Nat.le_of_ble_eq_true rfl, Nat.le_of_ble_eq_true rfl⟩ dX12_writeWord_14 rfl (st := []) (fun I_17 J_18 h_19 => ?_)
    obtain ⟨hUI_17, hFI_17, hGJ_18, ex_16⟩ := h_19
    have hF_20 := fq_tr hF hFI_17 (by decide)
    have hG_21 := fq_tr hG hGJ_18 (by decide)
    obtain ⟨x_22, hx_22, rx_22, tx_22, ux_22⟩ := tx_b (lo := 1) (hi := 63) ex_16 hxp0 rxp0 (by decide) (by decide)
    refine g_aload_n C 0 dX12_writeWord_17 rfl rfl ?_
    refine g_bipush C (v := 96) dX12_writeWord_18 (by decide) ?_
    refine g_lload_n C 1 dX12_writeWord_20 rfl rfl ?_
    refine g_ldc2 C kl_128 dX12_writeWord_21 ?_
    refine g_lrem C dX12_writeWord_24 (by decide) (fun y_23 => ?_)
    obtain ⟨x_24, hx_24, rx_24⟩ := ex_any (z0 := Int64.toInt32 y_23)
    refine g_l2i C (v := x_24) dX12_writeWord_25 hx_24 ?_
    obtain ⟨x_25, hx_25, rx_25⟩ := ex_any (z0 := 96 + x_24)
    refine g_iadd C (v := x_25) dX12_writeWord_26 hx_25 ?_
    refine g_callVV C K (c_X12_write W9 hLx hkx x_25  hUI_17  (eq_rg hx_22 (rg_w rx_22 (by decide) (by decide)))) hLx hkx (by decide) rfl v_12_342 rfl ⟨rfl, rfl⟩ ⟨Nat.le_of_ble_eq_true rfl, Nat.le_of_ble_eq_true rfl⟩ (Nat.le_of_ble_eq_true rfl) ⟨Nat.le_of_ble_eq_true rfl, Nat.le_of_ble_eq_true rfl⟩ dX12_writeWord_27 rfl (st := []) (fun I_27 J_28 h_29 => ?_)
    obtain ⟨hUI_27, hFI_27, hGJ_28, ex_26⟩ := h_29
    have hF_30 := fq_tr hF_20 hFI_27 (by decide)
    have hG_31 := fq_tr hG_21 hGJ_28 (by decide)
    obtain ⟨x_32, hx_32, rx_32, tx_32, ux_32⟩ := tx_b (lo := 2) (hi := 64) ex_26 hx_22 rx_22 (by decide) (by decide)
    exact g_vret B K rfl ⟨hUI_27, hF_30, hG_31, (tx_m hxp0 hx_32 ⟨by omega, by omega⟩)⟩ dX12_writeWord_30
set_option maxRecDepth 100000 in
set_option maxHeartbeats 8000000 in
theorem c_X12_writeWord_5 {l : Launch} {D : va_G} {cy : Nat → ClassId} {L : List Nat} {κ ln : Nat → Nat} {R : Nat → Nat → Option Nat} {I : Nat → Nat → Int32} {J : Nat → Nat → Int64} {ow : Nat → Nat × Nat} (W9 : ∀ a ∈ L, Shp L κ ln R ow a) {x : Nat} (hLx : x ∈ L) (hkx : κ x = 12) (a0 : Int64) (hU : Iw L κ R ow I) (hp0 : Rg 0 59 (I x 40)) (hw : a0.toInt < (14348907 : Int)) : CtV l yX12_writeWord cX12_writeWord 3 none { frames := 5, cells := 0, slots := 0, locals := 109 } D cy L κ ln R I J [.ref x, .long a0] (fun I2 J2 => Iw L κ R ow I2 ∧ Fq L κ ow [1240, 85900] I I2 ∧ Fq L κ ow [] J J2 ∧ ((I x 40).toInt + 1 ≤ (I2 x 40).toInt ∧ (I2 x 40).toInt ≤ (I x 40).toInt + 5)) := by
  refine CtV.of (by decide +kernel) (Nat.le_of_ble_eq_true rfl) ?_
  intro p e s m below meth c B K
  have C := B.1
  have hF : Fq L κ ow [1240, 85900] I I := fq_rf
  have hG : Fq L κ ow [] J J := fq_rf
  obtain ⟨xp0, hxp0, rxp0⟩ : ∃ z, I x 40 = z ∧ Rg 0 59 z := ⟨_, rfl, hp0⟩
  refine g_lo (is := [0, 1]) (lo2 := [(0, .ref x), (1, .long a0)]) rfl ?_
  refine g_lload_n C 1 dX12_writeWord_0 rfl rfl ?_
  refine g_ldc2 C kl_128 dX12_writeWord_1 ?_
  refine g_lcmpO C dX12_writeWord_4 (fun x_1 rx_1 qx_1 => ?_)
  refine g_if_lt C (tgt := 17) dX12_writeWord_5 (by decide) (fun h_2 => ?_) (fun h_2 => ?_)
  · skip
    have r_3 := lt_l (hi := (-1)) (h_2) rx_1 rc_0 (by decide)
    refine g_aload_n C 0 dX12_writeWord_17 rfl rfl ?_
    refine g_bipush C (v := 96) dX12_writeWord_18 (by decide) ?_
    refine g_lload_n C 1 dX12_writeWord_20 rfl rfl ?_
    refine g_ldc2 C kl_128 dX12_writeWord_21 ?_
    refine g_lrem C dX12_writeWord_24 (by decide) (fun y_4 => ?_)
    obtain ⟨x_5, hx_5, rx_5⟩ := ex_any (z0 := Int64.toInt32 y_4)
    refine g_l2i C (v := x_5) dX12_writeWord_25 hx_5 ?_
    obtain ⟨x_6, hx_6, rx_6⟩ := ex_any (z0 := 96 + x_5)
    refine g_iadd C (v := x_6) dX12_writeWord_26 hx_6 ?_
    refine g_callVV C K (c_X12_write W9 hLx hkx x_6  hU  (eq_rg hxp0 (rg_w rxp0 (by decide) (by decide)))) hLx hkx (by decide) rfl v_12_342 rfl ⟨rfl, rfl⟩ ⟨Nat.le_of_ble_eq_true rfl, Nat.le_of_ble_eq_true rfl⟩ (Nat.le_of_ble_eq_true rfl) ⟨Nat.le_of_ble_eq_true rfl, Nat.le_of_ble_eq_true rfl⟩ dX12_writeWord_27 rfl (st := []) (fun I_8 J_9 h_10 => ?_)
    obtain ⟨hUI_8, hFI_8, hGJ_9, ex_7⟩ := h_10
    have hF_11 := fq_tr hF hFI_8 (by decide)
    have hG_12 := fq_tr hG hGJ_9 (by decide)
    obtain ⟨x_13, hx_13, rx_13, tx_13, ux_13⟩ := tx_b (lo := 1) (hi := 60) ex_7 hxp0 rxp0 (by decide) (by decide)
    exact g_vret B K rfl ⟨hUI_8, hF_11, hG_12, (tx_m hxp0 hx_13 ⟨by omega, by omega⟩)⟩ dX12_writeWord_30
  · skip
    have r_14 := le_r (nlt h_2) rc_0 rx_1
    refine g_aload_n C 0 dX12_writeWord_8 rfl rfl ?_
    refine g_lload_n C 1 dX12_writeWord_9 rfl rfl ?_
    refine g_ldc2 C kl_128 dX12_writeWord_10 ?_
    obtain ⟨y_15, hy_15⟩ : ∃ z, a0 / 27 = z := ⟨_, rfl⟩
    refine g_ldivE C (v := y_15) dX12_writeWord_13 (by decide) hy_15 ?_
    refine g_callVV C K (c_X12_writeWord_4 W9 hLx hkx y_15  hU  (eq_rg hxp0 (rg_w rxp0 (by decide) (by decide))) (ld_27 (k := 14348907) (qx_1 (nlt h_2)) hy_15 hw (by decide))) hLx hkx (by decide) rfl v_12_338 rfl ⟨rfl, rfl⟩ ⟨Nat.le_of_ble_eq_true rfl, Nat.le_of_ble_eq_true rfl⟩ (Nat.le_of_ble_eq_true rfl) ⟨Nat.le_of_ble_eq_true rfl, Nat.le_of_ble_eq_true rfl⟩ dX12_writeWord_14 rfl (st := []) (fun I_17 J_18 h_19 => ?_)
    obtain ⟨hUI_17, hFI_17, hGJ_18, ex_16⟩ := h_19
    have hF_20 := fq_tr hF hFI_17 (by decide)
    have hG_21 := fq_tr hG hGJ_18 (by decide)
    obtain ⟨x_22, hx_22, rx_22, tx_22, ux_22⟩ := tx_b (lo := 1) (hi := 63) ex_16 hxp0 rxp0 (by decide) (by decide)
    refine g_aload_n C 0 dX12_writeWord_17 rfl rfl ?_
    refine g_bipush C (v := 96) dX12_writeWord_18 (by decide) ?_
    refine g_lload_n C 1 dX12_writeWord_20 rfl rfl ?_
    refine g_ldc2 C kl_128 dX12_writeWord_21 ?_
    refine g_lrem C dX12_writeWord_24 (by decide) (fun y_23 => ?_)
    obtain ⟨x_24, hx_24, rx_24⟩ := ex_any (z0 := Int64.toInt32 y_23)
    refine g_l2i C (v := x_24) dX12_writeWord_25 hx_24 ?_
    obtain ⟨x_25, hx_25, rx_25⟩ := ex_any (z0 := 96 + x_24)
    refine g_iadd C (v := x_25) dX12_writeWord_26 hx_25 ?_
    refine g_callVV C K (c_X12_write W9 hLx hkx x_25  hUI_17  (eq_rg hx_22 (rg_w rx_22 (by decide) (by decide)))) hLx hkx (by decide) rfl v_12_342 rfl ⟨rfl, rfl⟩ ⟨Nat.le_of_ble_eq_true rfl, Nat.le_of_ble_eq_true rfl⟩ (Nat.le_of_ble_eq_true rfl) ⟨Nat.le_of_ble_eq_true rfl, Nat.le_of_ble_eq_true rfl⟩ dX12_writeWord_27 rfl (st := []) (fun I_27 J_28 h_29 => ?_)
    obtain ⟨hUI_27, hFI_27, hGJ_28, ex_26⟩ := h_29
    have hF_30 := fq_tr hF_20 hFI_27 (by decide)
    have hG_31 := fq_tr hG_21 hGJ_28 (by decide)
    obtain ⟨x_32, hx_32, rx_32, tx_32, ux_32⟩ := tx_b (lo := 2) (hi := 64) ex_26 hx_22 rx_22 (by decide) (by decide)
    exact g_vret B K rfl ⟨hUI_27, hF_30, hG_31, (tx_m hxp0 hx_32 ⟨by omega, by omega⟩)⟩ dX12_writeWord_30
set_option maxRecDepth 100000 in
set_option maxHeartbeats 8000000 in
theorem c_X12_writeWord_6 {l : Launch} {D : va_G} {cy : Nat → ClassId} {L : List Nat} {κ ln : Nat → Nat} {R : Nat → Nat → Option Nat} {I : Nat → Nat → Int32} {J : Nat → Nat → Int64} {ow : Nat → Nat × Nat} (W9 : ∀ a ∈ L, Shp L κ ln R ow a) {x : Nat} (hLx : x ∈ L) (hkx : κ x = 12) (a0 : Int64) (hU : Iw L κ R ow I) (hp0 : Rg 0 58 (I x 40)) (hw : a0.toInt < (387420489 : Int)) : CtV l yX12_writeWord cX12_writeWord 3 none { frames := 6, cells := 0, slots := 0, locals := 131 } D cy L κ ln R I J [.ref x, .long a0] (fun I2 J2 => Iw L κ R ow I2 ∧ Fq L κ ow [1240, 85900] I I2 ∧ Fq L κ ow [] J J2 ∧ ((I x 40).toInt + 1 ≤ (I2 x 40).toInt ∧ (I2 x 40).toInt ≤ (I x 40).toInt + 6)) := by
  refine CtV.of (by decide +kernel) (Nat.le_of_ble_eq_true rfl) ?_
  intro p e s m below meth c B K
  have C := B.1
  have hF : Fq L κ ow [1240, 85900] I I := fq_rf
  have hG : Fq L κ ow [] J J := fq_rf
  obtain ⟨xp0, hxp0, rxp0⟩ : ∃ z, I x 40 = z ∧ Rg 0 58 z := ⟨_, rfl, hp0⟩
  refine g_lo (is := [0, 1]) (lo2 := [(0, .ref x), (1, .long a0)]) rfl ?_
  refine g_lload_n C 1 dX12_writeWord_0 rfl rfl ?_
  refine g_ldc2 C kl_128 dX12_writeWord_1 ?_
  refine g_lcmpO C dX12_writeWord_4 (fun x_1 rx_1 qx_1 => ?_)
  refine g_if_lt C (tgt := 17) dX12_writeWord_5 (by decide) (fun h_2 => ?_) (fun h_2 => ?_)
  · skip
    have r_3 := lt_l (hi := (-1)) (h_2) rx_1 rc_0 (by decide)
    refine g_aload_n C 0 dX12_writeWord_17 rfl rfl ?_
    refine g_bipush C (v := 96) dX12_writeWord_18 (by decide) ?_
    refine g_lload_n C 1 dX12_writeWord_20 rfl rfl ?_
    refine g_ldc2 C kl_128 dX12_writeWord_21 ?_
    refine g_lrem C dX12_writeWord_24 (by decide) (fun y_4 => ?_)
    obtain ⟨x_5, hx_5, rx_5⟩ := ex_any (z0 := Int64.toInt32 y_4)
    refine g_l2i C (v := x_5) dX12_writeWord_25 hx_5 ?_
    obtain ⟨x_6, hx_6, rx_6⟩ := ex_any (z0 := 96 + x_5)
    refine g_iadd C (v := x_6) dX12_writeWord_26 hx_6 ?_
    refine g_callVV C K (c_X12_write W9 hLx hkx x_6  hU  (eq_rg hxp0 (rg_w rxp0 (by decide) (by decide)))) hLx hkx (by decide) rfl v_12_342 rfl ⟨rfl, rfl⟩ ⟨Nat.le_of_ble_eq_true rfl, Nat.le_of_ble_eq_true rfl⟩ (Nat.le_of_ble_eq_true rfl) ⟨Nat.le_of_ble_eq_true rfl, Nat.le_of_ble_eq_true rfl⟩ dX12_writeWord_27 rfl (st := []) (fun I_8 J_9 h_10 => ?_)
    obtain ⟨hUI_8, hFI_8, hGJ_9, ex_7⟩ := h_10
    have hF_11 := fq_tr hF hFI_8 (by decide)
    have hG_12 := fq_tr hG hGJ_9 (by decide)
    obtain ⟨x_13, hx_13, rx_13, tx_13, ux_13⟩ := tx_b (lo := 1) (hi := 59) ex_7 hxp0 rxp0 (by decide) (by decide)
    exact g_vret B K rfl ⟨hUI_8, hF_11, hG_12, (tx_m hxp0 hx_13 ⟨by omega, by omega⟩)⟩ dX12_writeWord_30
  · skip
    have r_14 := le_r (nlt h_2) rc_0 rx_1
    refine g_aload_n C 0 dX12_writeWord_8 rfl rfl ?_
    refine g_lload_n C 1 dX12_writeWord_9 rfl rfl ?_
    refine g_ldc2 C kl_128 dX12_writeWord_10 ?_
    obtain ⟨y_15, hy_15⟩ : ∃ z, a0 / 27 = z := ⟨_, rfl⟩
    refine g_ldivE C (v := y_15) dX12_writeWord_13 (by decide) hy_15 ?_
    refine g_callVV C K (c_X12_writeWord_5 W9 hLx hkx y_15  hU  (eq_rg hxp0 (rg_w rxp0 (by decide) (by decide))) (ld_27 (k := 387420489) (qx_1 (nlt h_2)) hy_15 hw (by decide))) hLx hkx (by decide) rfl v_12_338 rfl ⟨rfl, rfl⟩ ⟨Nat.le_of_ble_eq_true rfl, Nat.le_of_ble_eq_true rfl⟩ (Nat.le_of_ble_eq_true rfl) ⟨Nat.le_of_ble_eq_true rfl, Nat.le_of_ble_eq_true rfl⟩ dX12_writeWord_14 rfl (st := []) (fun I_17 J_18 h_19 => ?_)
    obtain ⟨hUI_17, hFI_17, hGJ_18, ex_16⟩ := h_19
    have hF_20 := fq_tr hF hFI_17 (by decide)
    have hG_21 := fq_tr hG hGJ_18 (by decide)
    obtain ⟨x_22, hx_22, rx_22, tx_22, ux_22⟩ := tx_b (lo := 1) (hi := 63) ex_16 hxp0 rxp0 (by decide) (by decide)
    refine g_aload_n C 0 dX12_writeWord_17 rfl rfl ?_
    refine g_bipush C (v := 96) dX12_writeWord_18 (by decide) ?_
    refine g_lload_n C 1 dX12_writeWord_20 rfl rfl ?_
    refine g_ldc2 C kl_128 dX12_writeWord_21 ?_
    refine g_lrem C dX12_writeWord_24 (by decide) (fun y_23 => ?_)
    obtain ⟨x_24, hx_24, rx_24⟩ := ex_any (z0 := Int64.toInt32 y_23)
    refine g_l2i C (v := x_24) dX12_writeWord_25 hx_24 ?_
    obtain ⟨x_25, hx_25, rx_25⟩ := ex_any (z0 := 96 + x_24)
    refine g_iadd C (v := x_25) dX12_writeWord_26 hx_25 ?_
    refine g_callVV C K (c_X12_write W9 hLx hkx x_25  hUI_17  (eq_rg hx_22 (rg_w rx_22 (by decide) (by decide)))) hLx hkx (by decide) rfl v_12_342 rfl ⟨rfl, rfl⟩ ⟨Nat.le_of_ble_eq_true rfl, Nat.le_of_ble_eq_true rfl⟩ (Nat.le_of_ble_eq_true rfl) ⟨Nat.le_of_ble_eq_true rfl, Nat.le_of_ble_eq_true rfl⟩ dX12_writeWord_27 rfl (st := []) (fun I_27 J_28 h_29 => ?_)
    obtain ⟨hUI_27, hFI_27, hGJ_28, ex_26⟩ := h_29
    have hF_30 := fq_tr hF_20 hFI_27 (by decide)
    have hG_31 := fq_tr hG_21 hGJ_28 (by decide)
    obtain ⟨x_32, hx_32, rx_32, tx_32, ux_32⟩ := tx_b (lo := 2) (hi := 64) ex_26 hx_22 rx_22 (by decide) (by decide)
    exact g_vret B K rfl ⟨hUI_27, hF_30, hG_31, (tx_m hxp0 hx_32 ⟨by omega, by omega⟩)⟩ dX12_writeWord_30
set_option maxRecDepth 100000 in
set_option maxHeartbeats 8000000 in
theorem c_X12_writeWord_7 {l : Launch} {D : va_G} {cy : Nat → ClassId} {L : List Nat} {κ ln : Nat → Nat} {R : Nat → Nat → Option Nat} {I : Nat → Nat → Int32} {J : Nat → Nat → Int64} {ow : Nat → Nat × Nat} (W9 : ∀ a ∈ L, Shp L κ ln R ow a) {x : Nat} (hLx : x ∈ L) (hkx : κ x = 12) (a0 : Int64) (hU : Iw L κ R ow I) (hp0 : Rg 0 57 (I x 40)) (hw : a0.toInt < (10460353203 : Int)) : CtV l yX12_writeWord cX12_writeWord 3 none { frames := 7, cells := 0, slots := 0, locals := 153 } D cy L κ ln R I J [.ref x, .long a0] (fun I2 J2 => Iw L κ R ow I2 ∧ Fq L κ ow [1240, 85900] I I2 ∧ Fq L κ ow [] J J2 ∧ ((I x 40).toInt + 1 ≤ (I2 x 40).toInt ∧ (I2 x 40).toInt ≤ (I x 40).toInt + 7)) := by
  refine CtV.of (by decide +kernel) (Nat.le_of_ble_eq_true rfl) ?_
  intro p e s m below meth c B K
  have C := B.1
  have hF : Fq L κ ow [1240, 85900] I I := fq_rf
  have hG : Fq L κ ow [] J J := fq_rf
  obtain ⟨xp0, hxp0, rxp0⟩ : ∃ z, I x 40 = z ∧ Rg 0 57 z := ⟨_, rfl, hp0⟩
  refine g_lo (is := [0, 1]) (lo2 := [(0, .ref x), (1, .long a0)]) rfl ?_
  refine g_lload_n C 1 dX12_writeWord_0 rfl rfl ?_
  refine g_ldc2 C kl_128 dX12_writeWord_1 ?_
  refine g_lcmpO C dX12_writeWord_4 (fun x_1 rx_1 qx_1 => ?_)
  refine g_if_lt C (tgt := 17) dX12_writeWord_5 (by decide) (fun h_2 => ?_) (fun h_2 => ?_)
  · skip
    have r_3 := lt_l (hi := (-1)) (h_2) rx_1 rc_0 (by decide)
    refine g_aload_n C 0 dX12_writeWord_17 rfl rfl ?_
    refine g_bipush C (v := 96) dX12_writeWord_18 (by decide) ?_
    refine g_lload_n C 1 dX12_writeWord_20 rfl rfl ?_
    refine g_ldc2 C kl_128 dX12_writeWord_21 ?_
    refine g_lrem C dX12_writeWord_24 (by decide) (fun y_4 => ?_)
    obtain ⟨x_5, hx_5, rx_5⟩ := ex_any (z0 := Int64.toInt32 y_4)
    refine g_l2i C (v := x_5) dX12_writeWord_25 hx_5 ?_
    obtain ⟨x_6, hx_6, rx_6⟩ := ex_any (z0 := 96 + x_5)
    refine g_iadd C (v := x_6) dX12_writeWord_26 hx_6 ?_
    refine g_callVV C K (c_X12_write W9 hLx hkx x_6  hU  (eq_rg hxp0 (rg_w rxp0 (by decide) (by decide)))) hLx hkx (by decide) rfl v_12_342 rfl ⟨rfl, rfl⟩ ⟨Nat.le_of_ble_eq_true rfl, Nat.le_of_ble_eq_true rfl⟩ (Nat.le_of_ble_eq_true rfl) ⟨Nat.le_of_ble_eq_true rfl, Nat.le_of_ble_eq_true rfl⟩ dX12_writeWord_27 rfl (st := []) (fun I_8 J_9 h_10 => ?_)
    obtain ⟨hUI_8, hFI_8, hGJ_9, ex_7⟩ := h_10
    have hF_11 := fq_tr hF hFI_8 (by decide)
    have hG_12 := fq_tr hG hGJ_9 (by decide)
    obtain ⟨x_13, hx_13, rx_13, tx_13, ux_13⟩ := tx_b (lo := 1) (hi := 58) ex_7 hxp0 rxp0 (by decide) (by decide)
    exact g_vret B K rfl ⟨hUI_8, hF_11, hG_12, (tx_m hxp0 hx_13 ⟨by omega, by omega⟩)⟩ dX12_writeWord_30
  · skip
    have r_14 := le_r (nlt h_2) rc_0 rx_1
    refine g_aload_n C 0 dX12_writeWord_8 rfl rfl ?_
    refine g_lload_n C 1 dX12_writeWord_9 rfl rfl ?_
    refine g_ldc2 C kl_128 dX12_writeWord_10 ?_
    obtain ⟨y_15, hy_15⟩ : ∃ z, a0 / 27 = z := ⟨_, rfl⟩
    refine g_ldivE C (v := y_15) dX12_writeWord_13 (by decide) hy_15 ?_
    refine g_callVV C K (c_X12_writeWord_6 W9 hLx hkx y_15  hU  (eq_rg hxp0 (rg_w rxp0 (by decide) (by decide))) (ld_27 (k := 10460353203) (qx_1 (nlt h_2)) hy_15 hw (by decide))) hLx hkx (by decide) rfl v_12_338 rfl ⟨rfl, rfl⟩ ⟨Nat.le_of_ble_eq_true rfl, Nat.le_of_ble_eq_true rfl⟩ (Nat.le_of_ble_eq_true rfl) ⟨Nat.le_of_ble_eq_true rfl, Nat.le_of_ble_eq_true rfl⟩ dX12_writeWord_14 rfl (st := []) (fun I_17 J_18 h_19 => ?_)
    obtain ⟨hUI_17, hFI_17, hGJ_18, ex_16⟩ := h_19
    have hF_20 := fq_tr hF hFI_17 (by decide)
    have hG_21 := fq_tr hG hGJ_18 (by decide)
    obtain ⟨x_22, hx_22, rx_22, tx_22, ux_22⟩ := tx_b (lo := 1) (hi := 63) ex_16 hxp0 rxp0 (by decide) (by decide)
    refine g_aload_n C 0 dX12_writeWord_17 rfl rfl ?_
    refine g_bipush C (v := 96) dX12_writeWord_18 (by decide) ?_
    refine g_lload_n C 1 dX12_writeWord_20 rfl rfl ?_
    refine g_ldc2 C kl_128 dX12_writeWord_21 ?_
    refine g_lrem C dX12_writeWord_24 (by decide) (fun y_23 => ?_)
    obtain ⟨x_24, hx_24, rx_24⟩ := ex_any (z0 := Int64.toInt32 y_23)
    refine g_l2i C (v := x_24) dX12_writeWord_25 hx_24 ?_
    obtain ⟨x_25, hx_25, rx_25⟩ := ex_any (z0 := 96 + x_24)
    refine g_iadd C (v := x_25) dX12_writeWord_26 hx_25 ?_
    refine g_callVV C K (c_X12_write W9 hLx hkx x_25  hUI_17  (eq_rg hx_22 (rg_w rx_22 (by decide) (by decide)))) hLx hkx (by decide) rfl v_12_342 rfl ⟨rfl, rfl⟩ ⟨Nat.le_of_ble_eq_true rfl, Nat.le_of_ble_eq_true rfl⟩ (Nat.le_of_ble_eq_true rfl) ⟨Nat.le_of_ble_eq_true rfl, Nat.le_of_ble_eq_true rfl⟩ dX12_writeWord_27 rfl (st := []) (fun I_27 J_28 h_29 => ?_)
    obtain ⟨hUI_27, hFI_27, hGJ_28, ex_26⟩ := h_29
    have hF_30 := fq_tr hF_20 hFI_27 (by decide)
    have hG_31 := fq_tr hG_21 hGJ_28 (by decide)
    obtain ⟨x_32, hx_32, rx_32, tx_32, ux_32⟩ := tx_b (lo := 2) (hi := 64) ex_26 hx_22 rx_22 (by decide) (by decide)
    exact g_vret B K rfl ⟨hUI_27, hF_30, hG_31, (tx_m hxp0 hx_32 ⟨by omega, by omega⟩)⟩ dX12_writeWord_30
set_option maxRecDepth 100000 in
set_option maxHeartbeats 8000000 in
theorem c_X12_writeWord_8 {l : Launch} {D : va_G} {cy : Nat → ClassId} {L : List Nat} {κ ln : Nat → Nat} {R : Nat → Nat → Option Nat} {I : Nat → Nat → Int32} {J : Nat → Nat → Int64} {ow : Nat → Nat × Nat} (W9 : ∀ a ∈ L, Shp L κ ln R ow a) {x : Nat} (hLx : x ∈ L) (hkx : κ x = 12) (a0 : Int64) (hU : Iw L κ R ow I) (hp0 : Rg 0 56 (I x 40)) (hw : a0.toInt < (282429536481 : Int)) : CtV l yX12_writeWord cX12_writeWord 3 none { frames := 8, cells := 0, slots := 0, locals := 175 } D cy L κ ln R I J [.ref x, .long a0] (fun I2 J2 => Iw L κ R ow I2 ∧ Fq L κ ow [1240, 85900] I I2 ∧ Fq L κ ow [] J J2 ∧ ((I x 40).toInt + 1 ≤ (I2 x 40).toInt ∧ (I2 x 40).toInt ≤ (I x 40).toInt + 8)) := by
  refine CtV.of (by decide +kernel) (Nat.le_of_ble_eq_true rfl) ?_
  intro p e s m below meth c B K
  have C := B.1
  have hF : Fq L κ ow [1240, 85900] I I := fq_rf
  have hG : Fq L κ ow [] J J := fq_rf
  obtain ⟨xp0, hxp0, rxp0⟩ : ∃ z, I x 40 = z ∧ Rg 0 56 z := ⟨_, rfl, hp0⟩
  refine g_lo (is := [0, 1]) (lo2 := [(0, .ref x), (1, .long a0)]) rfl ?_
  refine g_lload_n C 1 dX12_writeWord_0 rfl rfl ?_
  refine g_ldc2 C kl_128 dX12_writeWord_1 ?_
  refine g_lcmpO C dX12_writeWord_4 (fun x_1 rx_1 qx_1 => ?_)
  refine g_if_lt C (tgt := 17) dX12_writeWord_5 (by decide) (fun h_2 => ?_) (fun h_2 => ?_)
  · skip
    have r_3 := lt_l (hi := (-1)) (h_2) rx_1 rc_0 (by decide)
    refine g_aload_n C 0 dX12_writeWord_17 rfl rfl ?_
    refine g_bipush C (v := 96) dX12_writeWord_18 (by decide) ?_
    refine g_lload_n C 1 dX12_writeWord_20 rfl rfl ?_
    refine g_ldc2 C kl_128 dX12_writeWord_21 ?_
    refine g_lrem C dX12_writeWord_24 (by decide) (fun y_4 => ?_)
    obtain ⟨x_5, hx_5, rx_5⟩ := ex_any (z0 := Int64.toInt32 y_4)
    refine g_l2i C (v := x_5) dX12_writeWord_25 hx_5 ?_
    obtain ⟨x_6, hx_6, rx_6⟩ := ex_any (z0 := 96 + x_5)
    refine g_iadd C (v := x_6) dX12_writeWord_26 hx_6 ?_
    refine g_callVV C K (c_X12_write W9 hLx hkx x_6  hU  (eq_rg hxp0 (rg_w rxp0 (by decide) (by decide)))) hLx hkx (by decide) rfl v_12_342 rfl ⟨rfl, rfl⟩ ⟨Nat.le_of_ble_eq_true rfl, Nat.le_of_ble_eq_true rfl⟩ (Nat.le_of_ble_eq_true rfl) ⟨Nat.le_of_ble_eq_true rfl, Nat.le_of_ble_eq_true rfl⟩ dX12_writeWord_27 rfl (st := []) (fun I_8 J_9 h_10 => ?_)
    obtain ⟨hUI_8, hFI_8, hGJ_9, ex_7⟩ := h_10
    have hF_11 := fq_tr hF hFI_8 (by decide)
    have hG_12 := fq_tr hG hGJ_9 (by decide)
    obtain ⟨x_13, hx_13, rx_13, tx_13, ux_13⟩ := tx_b (lo := 1) (hi := 57) ex_7 hxp0 rxp0 (by decide) (by decide)
    exact g_vret B K rfl ⟨hUI_8, hF_11, hG_12, (tx_m hxp0 hx_13 ⟨by omega, by omega⟩)⟩ dX12_writeWord_30
  · skip
    have r_14 := le_r (nlt h_2) rc_0 rx_1
    refine g_aload_n C 0 dX12_writeWord_8 rfl rfl ?_
    refine g_lload_n C 1 dX12_writeWord_9 rfl rfl ?_
    refine g_ldc2 C kl_128 dX12_writeWord_10 ?_
    obtain ⟨y_15, hy_15⟩ : ∃ z, a0 / 27 = z := ⟨_, rfl⟩
    refine g_ldivE C (v := y_15) dX12_writeWord_13 (by decide) hy_15 ?_
    refine g_callVV C K (c_X12_writeWord_7 W9 hLx hkx y_15  hU  (eq_rg hxp0 (rg_w rxp0 (by decide) (by decide))) (ld_27 (k := 282429536481) (qx_1 (nlt h_2)) hy_15 hw (by decide))) hLx hkx (by decide) rfl v_12_338 rfl ⟨rfl, rfl⟩ ⟨Nat.le_of_ble_eq_true rfl, Nat.le_of_ble_eq_true rfl⟩ (Nat.le_of_ble_eq_true rfl) ⟨Nat.le_of_ble_eq_true rfl, Nat.le_of_ble_eq_true rfl⟩ dX12_writeWord_14 rfl (st := []) (fun I_17 J_18 h_19 => ?_)
    obtain ⟨hUI_17, hFI_17, hGJ_18, ex_16⟩ := h_19
    have hF_20 := fq_tr hF hFI_17 (by decide)
    have hG_21 := fq_tr hG hGJ_18 (by decide)
    obtain ⟨x_22, hx_22, rx_22, tx_22, ux_22⟩ := tx_b (lo := 1) (hi := 63) ex_16 hxp0 rxp0 (by decide) (by decide)
    refine g_aload_n C 0 dX12_writeWord_17 rfl rfl ?_
    refine g_bipush C (v := 96) dX12_writeWord_18 (by decide) ?_
    refine g_lload_n C 1 dX12_writeWord_20 rfl rfl ?_
    refine g_ldc2 C kl_128 dX12_writeWord_21 ?_
    refine g_lrem C dX12_writeWord_24 (by decide) (fun y_23 => ?_)
    obtain ⟨x_24, hx_24, rx_24⟩ := ex_any (z0 := Int64.toInt32 y_23)
    refine g_l2i C (v := x_24) dX12_writeWord_25 hx_24 ?_
    obtain ⟨x_25, hx_25, rx_25⟩ := ex_any (z0 := 96 + x_24)
    refine g_iadd C (v := x_25) dX12_writeWord_26 hx_25 ?_
    refine g_callVV C K (c_X12_write W9 hLx hkx x_25  hUI_17  (eq_rg hx_22 (rg_w rx_22 (by decide) (by decide)))) hLx hkx (by decide) rfl v_12_342 rfl ⟨rfl, rfl⟩ ⟨Nat.le_of_ble_eq_true rfl, Nat.le_of_ble_eq_true rfl⟩ (Nat.le_of_ble_eq_true rfl) ⟨Nat.le_of_ble_eq_true rfl, Nat.le_of_ble_eq_true rfl⟩ dX12_writeWord_27 rfl (st := []) (fun I_27 J_28 h_29 => ?_)
    obtain ⟨hUI_27, hFI_27, hGJ_28, ex_26⟩ := h_29
    have hF_30 := fq_tr hF_20 hFI_27 (by decide)
    have hG_31 := fq_tr hG_21 hGJ_28 (by decide)
    obtain ⟨x_32, hx_32, rx_32, tx_32, ux_32⟩ := tx_b (lo := 2) (hi := 64) ex_26 hx_22 rx_22 (by decide) (by decide)
    exact g_vret B K rfl ⟨hUI_27, hF_30, hG_31, (tx_m hxp0 hx_32 ⟨by omega, by omega⟩)⟩ dX12_writeWord_30
set_option maxRecDepth 100000 in
set_option maxHeartbeats 8000000 in
theorem c_X12_writeWord_9 {l : Launch} {D : va_G} {cy : Nat → ClassId} {L : List Nat} {κ ln : Nat → Nat} {R : Nat → Nat → Option Nat} {I : Nat → Nat → Int32} {J : Nat → Nat → Int64} {ow : Nat → Nat × Nat} (W9 : ∀ a ∈ L, Shp L κ ln R ow a) {x : Nat} (hLx : x ∈ L) (hkx : κ x = 12) (a0 : Int64) (hU : Iw L κ R ow I) (hp0 : Rg 0 55 (I x 40)) (hw : a0.toInt < (7625597484987 : Int)) : CtV l yX12_writeWord cX12_writeWord 3 none { frames := 9, cells := 0, slots := 0, locals := 197 } D cy L κ ln R I J [.ref x, .long a0] (fun I2 J2 => Iw L κ R ow I2 ∧ Fq L κ ow [1240, 85900] I I2 ∧ Fq L κ ow [] J J2 ∧ ((I x 40).toInt + 1 ≤ (I2 x 40).toInt ∧ (I2 x 40).toInt ≤ (I x 40).toInt + 9)) := by
  refine CtV.of (by decide +kernel) (Nat.le_of_ble_eq_true rfl) ?_
  intro p e s m below meth c B K
  have C := B.1
  have hF : Fq L κ ow [1240, 85900] I I := fq_rf
  have hG : Fq L κ ow [] J J := fq_rf
  obtain ⟨xp0, hxp0, rxp0⟩ : ∃ z, I x 40 = z ∧ Rg 0 55 z := ⟨_, rfl, hp0⟩
  refine g_lo (is := [0, 1]) (lo2 := [(0, .ref x), (1, .long a0)]) rfl ?_
  refine g_lload_n C 1 dX12_writeWord_0 rfl rfl ?_
  refine g_ldc2 C kl_128 dX12_writeWord_1 ?_
  refine g_lcmpO C dX12_writeWord_4 (fun x_1 rx_1 qx_1 => ?_)
  refine g_if_lt C (tgt := 17) dX12_writeWord_5 (by decide) (fun h_2 => ?_) (fun h_2 => ?_)
  · skip
    have r_3 := lt_l (hi := (-1)) (h_2) rx_1 rc_0 (by decide)
    refine g_aload_n C 0 dX12_writeWord_17 rfl rfl ?_
    refine g_bipush C (v := 96) dX12_writeWord_18 (by decide) ?_
    refine g_lload_n C 1 dX12_writeWord_20 rfl rfl ?_
    refine g_ldc2 C kl_128 dX12_writeWord_21 ?_
    refine g_lrem C dX12_writeWord_24 (by decide) (fun y_4 => ?_)
    obtain ⟨x_5, hx_5, rx_5⟩ := ex_any (z0 := Int64.toInt32 y_4)
    refine g_l2i C (v := x_5) dX12_writeWord_25 hx_5 ?_
    obtain ⟨x_6, hx_6, rx_6⟩ := ex_any (z0 := 96 + x_5)
    refine g_iadd C (v := x_6) dX12_writeWord_26 hx_6 ?_
    refine g_callVV C K (c_X12_write W9 hLx hkx x_6  hU  (eq_rg hxp0 (rg_w rxp0 (by decide) (by decide)))) hLx hkx (by decide) rfl v_12_342 rfl ⟨rfl, rfl⟩ ⟨Nat.le_of_ble_eq_true rfl, Nat.le_of_ble_eq_true rfl⟩ (Nat.le_of_ble_eq_true rfl) ⟨Nat.le_of_ble_eq_true rfl, Nat.le_of_ble_eq_true rfl⟩ dX12_writeWord_27 rfl (st := []) (fun I_8 J_9 h_10 => ?_)
    obtain ⟨hUI_8, hFI_8, hGJ_9, ex_7⟩ := h_10
    have hF_11 := fq_tr hF hFI_8 (by decide)
    have hG_12 := fq_tr hG hGJ_9 (by decide)
    obtain ⟨x_13, hx_13, rx_13, tx_13, ux_13⟩ := tx_b (lo := 1) (hi := 56) ex_7 hxp0 rxp0 (by decide) (by decide)
    exact g_vret B K rfl ⟨hUI_8, hF_11, hG_12, (tx_m hxp0 hx_13 ⟨by omega, by omega⟩)⟩ dX12_writeWord_30
  · skip
    have r_14 := le_r (nlt h_2) rc_0 rx_1
    refine g_aload_n C 0 dX12_writeWord_8 rfl rfl ?_
    refine g_lload_n C 1 dX12_writeWord_9 rfl rfl ?_
    refine g_ldc2 C kl_128 dX12_writeWord_10 ?_
    obtain ⟨y_15, hy_15⟩ : ∃ z, a0 / 27 = z := ⟨_, rfl⟩
    refine g_ldivE C (v := y_15) dX12_writeWord_13 (by decide) hy_15 ?_
    refine g_callVV C K (c_X12_writeWord_8 W9 hLx hkx y_15  hU  (eq_rg hxp0 (rg_w rxp0 (by decide) (by decide))) (ld_27 (k := 7625597484987) (qx_1 (nlt h_2)) hy_15 hw (by decide))) hLx hkx (by decide) rfl v_12_338 rfl ⟨rfl, rfl⟩ ⟨Nat.le_of_ble_eq_true rfl, Nat.le_of_ble_eq_true rfl⟩ (Nat.le_of_ble_eq_true rfl) ⟨Nat.le_of_ble_eq_true rfl, Nat.le_of_ble_eq_true rfl⟩ dX12_writeWord_14 rfl (st := []) (fun I_17 J_18 h_19 => ?_)
    obtain ⟨hUI_17, hFI_17, hGJ_18, ex_16⟩ := h_19
    have hF_20 := fq_tr hF hFI_17 (by decide)
    have hG_21 := fq_tr hG hGJ_18 (by decide)
    obtain ⟨x_22, hx_22, rx_22, tx_22, ux_22⟩ := tx_b (lo := 1) (hi := 63) ex_16 hxp0 rxp0 (by decide) (by decide)
    refine g_aload_n C 0 dX12_writeWord_17 rfl rfl ?_
    refine g_bipush C (v := 96) dX12_writeWord_18 (by decide) ?_
    refine g_lload_n C 1 dX12_writeWord_20 rfl rfl ?_
    refine g_ldc2 C kl_128 dX12_writeWord_21 ?_
    refine g_lrem C dX12_writeWord_24 (by decide) (fun y_23 => ?_)
    obtain ⟨x_24, hx_24, rx_24⟩ := ex_any (z0 := Int64.toInt32 y_23)
    refine g_l2i C (v := x_24) dX12_writeWord_25 hx_24 ?_
    obtain ⟨x_25, hx_25, rx_25⟩ := ex_any (z0 := 96 + x_24)
    refine g_iadd C (v := x_25) dX12_writeWord_26 hx_25 ?_
    refine g_callVV C K (c_X12_write W9 hLx hkx x_25  hUI_17  (eq_rg hx_22 (rg_w rx_22 (by decide) (by decide)))) hLx hkx (by decide) rfl v_12_342 rfl ⟨rfl, rfl⟩ ⟨Nat.le_of_ble_eq_true rfl, Nat.le_of_ble_eq_true rfl⟩ (Nat.le_of_ble_eq_true rfl) ⟨Nat.le_of_ble_eq_true rfl, Nat.le_of_ble_eq_true rfl⟩ dX12_writeWord_27 rfl (st := []) (fun I_27 J_28 h_29 => ?_)
    obtain ⟨hUI_27, hFI_27, hGJ_28, ex_26⟩ := h_29
    have hF_30 := fq_tr hF_20 hFI_27 (by decide)
    have hG_31 := fq_tr hG_21 hGJ_28 (by decide)
    obtain ⟨x_32, hx_32, rx_32, tx_32, ux_32⟩ := tx_b (lo := 2) (hi := 64) ex_26 hx_22 rx_22 (by decide) (by decide)
    exact g_vret B K rfl ⟨hUI_27, hF_30, hG_31, (tx_m hxp0 hx_32 ⟨by omega, by omega⟩)⟩ dX12_writeWord_30
set_option maxRecDepth 100000 in
set_option maxHeartbeats 8000000 in
theorem c_X12_writeWord_10 {l : Launch} {D : va_G} {cy : Nat → ClassId} {L : List Nat} {κ ln : Nat → Nat} {R : Nat → Nat → Option Nat} {I : Nat → Nat → Int32} {J : Nat → Nat → Int64} {ow : Nat → Nat × Nat} (W9 : ∀ a ∈ L, Shp L κ ln R ow a) {x : Nat} (hLx : x ∈ L) (hkx : κ x = 12) (a0 : Int64) (hU : Iw L κ R ow I) (hp0 : Rg 0 54 (I x 40)) (hw : a0.toInt < (205891132094649 : Int)) : CtV l yX12_writeWord cX12_writeWord 3 none { frames := 10, cells := 0, slots := 0, locals := 219 } D cy L κ ln R I J [.ref x, .long a0] (fun I2 J2 => Iw L κ R ow I2 ∧ Fq L κ ow [1240, 85900] I I2 ∧ Fq L κ ow [] J J2 ∧ ((I x 40).toInt + 1 ≤ (I2 x 40).toInt ∧ (I2 x 40).toInt ≤ (I x 40).toInt + 10)) := by
  refine CtV.of (by decide +kernel) (Nat.le_of_ble_eq_true rfl) ?_
  intro p e s m below meth c B K
  have C := B.1
  have hF : Fq L κ ow [1240, 85900] I I := fq_rf
  have hG : Fq L κ ow [] J J := fq_rf
  obtain ⟨xp0, hxp0, rxp0⟩ : ∃ z, I x 40 = z ∧ Rg 0 54 z := ⟨_, rfl, hp0⟩
  refine g_lo (is := [0, 1]) (lo2 := [(0, .ref x), (1, .long a0)]) rfl ?_
  refine g_lload_n C 1 dX12_writeWord_0 rfl rfl ?_
  refine g_ldc2 C kl_128 dX12_writeWord_1 ?_
  refine g_lcmpO C dX12_writeWord_4 (fun x_1 rx_1 qx_1 => ?_)
  refine g_if_lt C (tgt := 17) dX12_writeWord_5 (by decide) (fun h_2 => ?_) (fun h_2 => ?_)
  · skip
    have r_3 := lt_l (hi := (-1)) (h_2) rx_1 rc_0 (by decide)
    refine g_aload_n C 0 dX12_writeWord_17 rfl rfl ?_
    refine g_bipush C (v := 96) dX12_writeWord_18 (by decide) ?_
    refine g_lload_n C 1 dX12_writeWord_20 rfl rfl ?_
    refine g_ldc2 C kl_128 dX12_writeWord_21 ?_
    refine g_lrem C dX12_writeWord_24 (by decide) (fun y_4 => ?_)
    obtain ⟨x_5, hx_5, rx_5⟩ := ex_any (z0 := Int64.toInt32 y_4)
    refine g_l2i C (v := x_5) dX12_writeWord_25 hx_5 ?_
    obtain ⟨x_6, hx_6, rx_6⟩ := ex_any (z0 := 96 + x_5)
    refine g_iadd C (v := x_6) dX12_writeWord_26 hx_6 ?_
    refine g_callVV C K (c_X12_write W9 hLx hkx x_6  hU  (eq_rg hxp0 (rg_w rxp0 (by decide) (by decide)))) hLx hkx (by decide) rfl v_12_342 rfl ⟨rfl, rfl⟩ ⟨Nat.le_of_ble_eq_true rfl, Nat.le_of_ble_eq_true rfl⟩ (Nat.le_of_ble_eq_true rfl) ⟨Nat.le_of_ble_eq_true rfl, Nat.le_of_ble_eq_true rfl⟩ dX12_writeWord_27 rfl (st := []) (fun I_8 J_9 h_10 => ?_)
    obtain ⟨hUI_8, hFI_8, hGJ_9, ex_7⟩ := h_10
    have hF_11 := fq_tr hF hFI_8 (by decide)
    have hG_12 := fq_tr hG hGJ_9 (by decide)
    obtain ⟨x_13, hx_13, rx_13, tx_13, ux_13⟩ := tx_b (lo := 1) (hi := 55) ex_7 hxp0 rxp0 (by decide) (by decide)
    exact g_vret B K rfl ⟨hUI_8, hF_11, hG_12, (tx_m hxp0 hx_13 ⟨by omega, by omega⟩)⟩ dX12_writeWord_30
  · skip
    have r_14 := le_r (nlt h_2) rc_0 rx_1
    refine g_aload_n C 0 dX12_writeWord_8 rfl rfl ?_
    refine g_lload_n C 1 dX12_writeWord_9 rfl rfl ?_
    refine g_ldc2 C kl_128 dX12_writeWord_10 ?_
    obtain ⟨y_15, hy_15⟩ : ∃ z, a0 / 27 = z := ⟨_, rfl⟩
    refine g_ldivE C (v := y_15) dX12_writeWord_13 (by decide) hy_15 ?_
    refine g_callVV C K (c_X12_writeWord_9 W9 hLx hkx y_15  hU  (eq_rg hxp0 (rg_w rxp0 (by decide) (by decide))) (ld_27 (k := 205891132094649) (qx_1 (nlt h_2)) hy_15 hw (by decide))) hLx hkx (by decide) rfl v_12_338 rfl ⟨rfl, rfl⟩ ⟨Nat.le_of_ble_eq_true rfl, Nat.le_of_ble_eq_true rfl⟩ (Nat.le_of_ble_eq_true rfl) ⟨Nat.le_of_ble_eq_true rfl, Nat.le_of_ble_eq_true rfl⟩ dX12_writeWord_14 rfl (st := []) (fun I_17 J_18 h_19 => ?_)
    obtain ⟨hUI_17, hFI_17, hGJ_18, ex_16⟩ := h_19
    have hF_20 := fq_tr hF hFI_17 (by decide)
    have hG_21 := fq_tr hG hGJ_18 (by decide)
    obtain ⟨x_22, hx_22, rx_22, tx_22, ux_22⟩ := tx_b (lo := 1) (hi := 63) ex_16 hxp0 rxp0 (by decide) (by decide)
    refine g_aload_n C 0 dX12_writeWord_17 rfl rfl ?_
    refine g_bipush C (v := 96) dX12_writeWord_18 (by decide) ?_
    refine g_lload_n C 1 dX12_writeWord_20 rfl rfl ?_
    refine g_ldc2 C kl_128 dX12_writeWord_21 ?_
    refine g_lrem C dX12_writeWord_24 (by decide) (fun y_23 => ?_)
    obtain ⟨x_24, hx_24, rx_24⟩ := ex_any (z0 := Int64.toInt32 y_23)
    refine g_l2i C (v := x_24) dX12_writeWord_25 hx_24 ?_
    obtain ⟨x_25, hx_25, rx_25⟩ := ex_any (z0 := 96 + x_24)
    refine g_iadd C (v := x_25) dX12_writeWord_26 hx_25 ?_
    refine g_callVV C K (c_X12_write W9 hLx hkx x_25  hUI_17  (eq_rg hx_22 (rg_w rx_22 (by decide) (by decide)))) hLx hkx (by decide) rfl v_12_342 rfl ⟨rfl, rfl⟩ ⟨Nat.le_of_ble_eq_true rfl, Nat.le_of_ble_eq_true rfl⟩ (Nat.le_of_ble_eq_true rfl) ⟨Nat.le_of_ble_eq_true rfl, Nat.le_of_ble_eq_true rfl⟩ dX12_writeWord_27 rfl (st := []) (fun I_27 J_28 h_29 => ?_)
    obtain ⟨hUI_27, hFI_27, hGJ_28, ex_26⟩ := h_29
    have hF_30 := fq_tr hF_20 hFI_27 (by decide)
    have hG_31 := fq_tr hG_21 hGJ_28 (by decide)
    obtain ⟨x_32, hx_32, rx_32, tx_32, ux_32⟩ := tx_b (lo := 2) (hi := 64) ex_26 hx_22 rx_22 (by decide) (by decide)
    exact g_vret B K rfl ⟨hUI_27, hF_30, hG_31, (tx_m hxp0 hx_32 ⟨by omega, by omega⟩)⟩ dX12_writeWord_30
set_option maxRecDepth 100000 in
set_option maxHeartbeats 8000000 in
theorem c_X12_writeWord_11 {l : Launch} {D : va_G} {cy : Nat → ClassId} {L : List Nat} {κ ln : Nat → Nat} {R : Nat → Nat → Option Nat} {I : Nat → Nat → Int32} {J : Nat → Nat → Int64} {ow : Nat → Nat × Nat} (W9 : ∀ a ∈ L, Shp L κ ln R ow a) {x : Nat} (hLx : x ∈ L) (hkx : κ x = 12) (a0 : Int64) (hU : Iw L κ R ow I) (hp0 : Rg 0 53 (I x 40)) (hw : a0.toInt < (5559060566555523 : Int)) : CtV l yX12_writeWord cX12_writeWord 3 none { frames := 11, cells := 0, slots := 0, locals := 241 } D cy L κ ln R I J [.ref x, .long a0] (fun I2 J2 => Iw L κ R ow I2 ∧ Fq L κ ow [1240, 85900] I I2 ∧ Fq L κ ow [] J J2 ∧ ((I x 40).toInt + 1 ≤ (I2 x 40).toInt ∧ (I2 x 40).toInt ≤ (I x 40).toInt + 11)) := by
  refine CtV.of (by decide +kernel) (Nat.le_of_ble_eq_true rfl) ?_
  intro p e s m below meth c B K
  have C := B.1
  have hF : Fq L κ ow [1240, 85900] I I := fq_rf
  have hG : Fq L κ ow [] J J := fq_rf
  obtain ⟨xp0, hxp0, rxp0⟩ : ∃ z, I x 40 = z ∧ Rg 0 53 z := ⟨_, rfl, hp0⟩
  refine g_lo (is := [0, 1]) (lo2 := [(0, .ref x), (1, .long a0)]) rfl ?_
  refine g_lload_n C 1 dX12_writeWord_0 rfl rfl ?_
  refine g_ldc2 C kl_128 dX12_writeWord_1 ?_
  refine g_lcmpO C dX12_writeWord_4 (fun x_1 rx_1 qx_1 => ?_)
  refine g_if_lt C (tgt := 17) dX12_writeWord_5 (by decide) (fun h_2 => ?_) (fun h_2 => ?_)
  · skip
    have r_3 := lt_l (hi := (-1)) (h_2) rx_1 rc_0 (by decide)
    refine g_aload_n C 0 dX12_writeWord_17 rfl rfl ?_
    refine g_bipush C (v := 96) dX12_writeWord_18 (by decide) ?_
    refine g_lload_n C 1 dX12_writeWord_20 rfl rfl ?_
    refine g_ldc2 C kl_128 dX12_writeWord_21 ?_
    refine g_lrem C dX12_writeWord_24 (by decide) (fun y_4 => ?_)
    obtain ⟨x_5, hx_5, rx_5⟩ := ex_any (z0 := Int64.toInt32 y_4)
    refine g_l2i C (v := x_5) dX12_writeWord_25 hx_5 ?_
    obtain ⟨x_6, hx_6, rx_6⟩ := ex_any (z0 := 96 + x_5)
    refine g_iadd C (v := x_6) dX12_writeWord_26 hx_6 ?_
    refine g_callVV C K (c_X12_write W9 hLx hkx x_6  hU  (eq_rg hxp0 (rg_w rxp0 (by decide) (by decide)))) hLx hkx (by decide) rfl v_12_342 rfl ⟨rfl, rfl⟩ ⟨Nat.le_of_ble_eq_true rfl, Nat.le_of_ble_eq_true rfl⟩ (Nat.le_of_ble_eq_true rfl) ⟨Nat.le_of_ble_eq_true rfl, Nat.le_of_ble_eq_true rfl⟩ dX12_writeWord_27 rfl (st := []) (fun I_8 J_9 h_10 => ?_)
    obtain ⟨hUI_8, hFI_8, hGJ_9, ex_7⟩ := h_10
    have hF_11 := fq_tr hF hFI_8 (by decide)
    have hG_12 := fq_tr hG hGJ_9 (by decide)
    obtain ⟨x_13, hx_13, rx_13, tx_13, ux_13⟩ := tx_b (lo := 1) (hi := 54) ex_7 hxp0 rxp0 (by decide) (by decide)
    exact g_vret B K rfl ⟨hUI_8, hF_11, hG_12, (tx_m hxp0 hx_13 ⟨by omega, by omega⟩)⟩ dX12_writeWord_30
  · skip
    have r_14 := le_r (nlt h_2) rc_0 rx_1
    refine g_aload_n C 0 dX12_writeWord_8 rfl rfl ?_
    refine g_lload_n C 1 dX12_writeWord_9 rfl rfl ?_
    refine g_ldc2 C kl_128 dX12_writeWord_10 ?_
    obtain ⟨y_15, hy_15⟩ : ∃ z, a0 / 27 = z := ⟨_, rfl⟩
    refine g_ldivE C (v := y_15) dX12_writeWord_13 (by decide) hy_15 ?_
    refine g_callVV C K (c_X12_writeWord_10 W9 hLx hkx y_15  hU  (eq_rg hxp0 (rg_w rxp0 (by decide) (by decide))) (ld_27 (k := 5559060566555523) (qx_1 (nlt h_2)) hy_15 hw (by decide))) hLx hkx (by decide) rfl v_12_338 rfl ⟨rfl, rfl⟩ ⟨Nat.le_of_ble_eq_true rfl, Nat.le_of_ble_eq_true rfl⟩ (Nat.le_of_ble_eq_true rfl) ⟨Nat.le_of_ble_eq_true rfl, Nat.le_of_ble_eq_true rfl⟩ dX12_writeWord_14 rfl (st := []) (fun I_17 J_18 h_19 => ?_)
    obtain ⟨hUI_17, hFI_17, hGJ_18, ex_16⟩ := h_19
    have hF_20 := fq_tr hF hFI_17 (by decide)
    have hG_21 := fq_tr hG hGJ_18 (by decide)
    obtain ⟨x_22, hx_22, rx_22, tx_22, ux_22⟩ := tx_b (lo := 1) (hi := 63) ex_16 hxp0 rxp0 (by decide) (by decide)
    refine g_aload_n C 0 dX12_writeWord_17 rfl rfl ?_
    refine g_bipush C (v := 96) dX12_writeWord_18 (by decide) ?_
    refine g_lload_n C 1 dX12_writeWord_20 rfl rfl ?_
    refine g_ldc2 C kl_128 dX12_writeWord_21 ?_
    refine g_lrem C dX12_writeWord_24 (by decide) (fun y_23 => ?_)
    obtain ⟨x_24, hx_24, rx_24⟩ := ex_any (z0 := Int64.toInt32 y_23)
    refine g_l2i C (v := x_24) dX12_writeWord_25 hx_24 ?_
    obtain ⟨x_25, hx_25, rx_25⟩ := ex_any (z0 := 96 + x_24)
    refine g_iadd C (v := x_25) dX12_writeWord_26 hx_25 ?_
    refine g_callVV C K (c_X12_write W9 hLx hkx x_25  hUI_17  (eq_rg hx_22 (rg_w rx_22 (by decide) (by decide)))) hLx hkx (by decide) rfl v_12_342 rfl ⟨rfl, rfl⟩ ⟨Nat.le_of_ble_eq_true rfl, Nat.le_of_ble_eq_true rfl⟩ (Nat.le_of_ble_eq_true rfl) ⟨Nat.le_of_ble_eq_true rfl, Nat.le_of_ble_eq_true rfl⟩ dX12_writeWord_27 rfl (st := []) (fun I_27 J_28 h_29 => ?_)
    obtain ⟨hUI_27, hFI_27, hGJ_28, ex_26⟩ := h_29
    have hF_30 := fq_tr hF_20 hFI_27 (by decide)
    have hG_31 := fq_tr hG_21 hGJ_28 (by decide)
    obtain ⟨x_32, hx_32, rx_32, tx_32, ux_32⟩ := tx_b (lo := 2) (hi := 64) ex_26 hx_22 rx_22 (by decide) (by decide)
    exact g_vret B K rfl ⟨hUI_27, hF_30, hG_31, (tx_m hxp0 hx_32 ⟨by omega, by omega⟩)⟩ dX12_writeWord_30
