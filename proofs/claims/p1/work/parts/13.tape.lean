theorem dX10_addToken_0 : decode cX10_addToken 0 = .ok (.aload_n 0, 1) := by decide +kernel
theorem dX10_addToken_1 : decode cX10_addToken 1 = .ok (.getfield 33, 3) := by decide +kernel
theorem dX10_addToken_4 : decode cX10_addToken 4 = .ok (.aload_n 0, 1) := by decide +kernel
theorem dX10_addToken_5 : decode cX10_addToken 5 = .ok (.getfield 19, 3) := by decide +kernel
theorem dX10_addToken_8 : decode cX10_addToken 8 = .ok (.arraylength, 1) := by decide +kernel
theorem dX10_addToken_9 : decode cX10_addToken 9 = .ok (.if_icmp .ge 43, 3) := by decide +kernel
theorem dX10_addToken_12 : decode cX10_addToken 12 = .ok (.aload_n 0, 1) := by decide +kernel
theorem dX10_addToken_13 : decode cX10_addToken 13 = .ok (.getfield 19, 3) := by decide +kernel
theorem dX10_addToken_16 : decode cX10_addToken 16 = .ok (.aload_n 0, 1) := by decide +kernel
theorem dX10_addToken_17 : decode cX10_addToken 17 = .ok (.getfield 33, 3) := by decide +kernel
theorem dX10_addToken_20 : decode cX10_addToken 20 = .ok (.iload_n 1, 1) := by decide +kernel
theorem dX10_addToken_21 : decode cX10_addToken 21 = .ok (.iastore, 1) := by decide +kernel
theorem dX10_addToken_22 : decode cX10_addToken 22 = .ok (.aload_n 0, 1) := by decide +kernel
theorem dX10_addToken_23 : decode cX10_addToken 23 = .ok (.getfield 23, 3) := by decide +kernel
theorem dX10_addToken_26 : decode cX10_addToken 26 = .ok (.aload_n 0, 1) := by decide +kernel
theorem dX10_addToken_27 : decode cX10_addToken 27 = .ok (.getfield 33, 3) := by decide +kernel
theorem dX10_addToken_30 : decode cX10_addToken 30 = .ok (.iload_n 2, 1) := by decide +kernel
theorem dX10_addToken_31 : decode cX10_addToken 31 = .ok (.iastore, 1) := by decide +kernel
theorem dX10_addToken_32 : decode cX10_addToken 32 = .ok (.aload_n 0, 1) := by decide +kernel
theorem dX10_addToken_33 : decode cX10_addToken 33 = .ok (.getfield 26, 3) := by decide +kernel
theorem dX10_addToken_36 : decode cX10_addToken 36 = .ok (.aload_n 0, 1) := by decide +kernel
theorem dX10_addToken_37 : decode cX10_addToken 37 = .ok (.getfield 33, 3) := by decide +kernel
theorem dX10_addToken_40 : decode cX10_addToken 40 = .ok (.lload_n 3, 1) := by decide +kernel
theorem dX10_addToken_41 : decode cX10_addToken 41 = .ok (.lastore, 1) := by decide +kernel
theorem dX10_addToken_42 : decode cX10_addToken 42 = .ok (.aload_n 0, 1) := by decide +kernel
theorem dX10_addToken_43 : decode cX10_addToken 43 = .ok (.dup, 1) := by decide +kernel
theorem dX10_addToken_44 : decode cX10_addToken 44 = .ok (.getfield 33, 3) := by decide +kernel
theorem dX10_addToken_47 : decode cX10_addToken 47 = .ok (.iconst 1, 1) := by decide +kernel
theorem dX10_addToken_48 : decode cX10_addToken 48 = .ok (.iadd, 1) := by decide +kernel
theorem dX10_addToken_49 : decode cX10_addToken 49 = .ok (.putfield 33, 3) := by decide +kernel
theorem dX10_addToken_52 : decode cX10_addToken 52 = .ok (.return_, 1) := by decide +kernel
theorem dX10_advance_0 : decode cX10_advance 0 = .ok (.aload_n 0, 1) := by decide +kernel
theorem dX10_advance_1 : decode cX10_advance 1 = .ok (.getfield 36, 3) := by decide +kernel
theorem dX10_advance_4 : decode cX10_advance 4 = .ok (.iconst 1, 1) := by decide +kernel
theorem dX10_advance_5 : decode cX10_advance 5 = .ok (.iadd, 1) := by decide +kernel
theorem dX10_advance_6 : decode cX10_advance 6 = .ok (.aload_n 0, 1) := by decide +kernel
theorem dX10_advance_7 : decode cX10_advance 7 = .ok (.getfield 33, 3) := by decide +kernel
theorem dX10_advance_10 : decode cX10_advance 10 = .ok (.if_icmp .ge 52, 3) := by decide +kernel
theorem dX10_advance_13 : decode cX10_advance 13 = .ok (.aload_n 0, 1) := by decide +kernel
theorem dX10_advance_14 : decode cX10_advance 14 = .ok (.dup, 1) := by decide +kernel
theorem dX10_advance_15 : decode cX10_advance 15 = .ok (.getfield 36, 3) := by decide +kernel
theorem dX10_advance_18 : decode cX10_advance 18 = .ok (.iconst 1, 1) := by decide +kernel
theorem dX10_advance_19 : decode cX10_advance 19 = .ok (.iadd, 1) := by decide +kernel
theorem dX10_advance_20 : decode cX10_advance 20 = .ok (.putfield 36, 3) := by decide +kernel
theorem dX10_advance_23 : decode cX10_advance 23 = .ok (.aload_n 0, 1) := by decide +kernel
theorem dX10_advance_24 : decode cX10_advance 24 = .ok (.aload_n 0, 1) := by decide +kernel
theorem dX10_advance_25 : decode cX10_advance 25 = .ok (.getfield 19, 3) := by decide +kernel
theorem dX10_advance_28 : decode cX10_advance 28 = .ok (.aload_n 0, 1) := by decide +kernel
theorem dX10_advance_29 : decode cX10_advance 29 = .ok (.getfield 36, 3) := by decide +kernel
theorem dX10_advance_32 : decode cX10_advance 32 = .ok (.iaload, 1) := by decide +kernel
theorem dX10_advance_33 : decode cX10_advance 33 = .ok (.putfield 39, 3) := by decide +kernel
theorem dX10_advance_36 : decode cX10_advance 36 = .ok (.aload_n 0, 1) := by decide +kernel
theorem dX10_advance_37 : decode cX10_advance 37 = .ok (.aload_n 0, 1) := by decide +kernel
theorem dX10_advance_38 : decode cX10_advance 38 = .ok (.getfield 23, 3) := by decide +kernel
theorem dX10_advance_41 : decode cX10_advance 41 = .ok (.aload_n 0, 1) := by decide +kernel
theorem dX10_advance_42 : decode cX10_advance 42 = .ok (.getfield 36, 3) := by decide +kernel
theorem dX10_advance_45 : decode cX10_advance 45 = .ok (.iaload, 1) := by decide +kernel
theorem dX10_advance_46 : decode cX10_advance 46 = .ok (.putfield 42, 3) := by decide +kernel
theorem dX10_advance_49 : decode cX10_advance 49 = .ok (.aload_n 0, 1) := by decide +kernel
theorem dX10_advance_50 : decode cX10_advance 50 = .ok (.aload_n 0, 1) := by decide +kernel
theorem dX10_advance_51 : decode cX10_advance 51 = .ok (.getfield 26, 3) := by decide +kernel
theorem dX10_advance_54 : decode cX10_advance 54 = .ok (.aload_n 0, 1) := by decide +kernel
theorem dX10_advance_55 : decode cX10_advance 55 = .ok (.getfield 36, 3) := by decide +kernel
theorem dX10_advance_58 : decode cX10_advance 58 = .ok (.laload, 1) := by decide +kernel
theorem dX10_advance_59 : decode cX10_advance 59 = .ok (.putfield 45, 3) := by decide +kernel
theorem dX10_advance_62 : decode cX10_advance 62 = .ok (.return_, 1) := by decide +kernel
theorem dX10_begin_0 : decode cX10_begin 0 = .ok (.aload_n 0, 1) := by decide +kernel
theorem dX10_begin_1 : decode cX10_begin 1 = .ok (.getfield 29, 3) := by decide +kernel
theorem dX10_begin_4 : decode cX10_begin 4 = .ok (.iload_n 1, 1) := by decide +kernel
theorem dX10_begin_5 : decode cX10_begin 5 = .ok (.invokestatic 70, 3) := by decide +kernel
theorem dX10_begin_8 : decode cX10_begin 8 = .ok (.aload_n 0, 1) := by decide +kernel
theorem dX10_begin_9 : decode cX10_begin 9 = .ok (.getfield 9, 3) := by decide +kernel
theorem dX10_begin_12 : decode cX10_begin 12 = .ok (.arraylength, 1) := by decide +kernel
theorem dX10_begin_13 : decode cX10_begin 13 = .ok (.invokestatic 70, 3) := by decide +kernel
theorem dX10_begin_16 : decode cX10_begin 16 = .ok (.istore_n 2, 1) := by decide +kernel
theorem dX10_begin_17 : decode cX10_begin 17 = .ok (.iconst 0, 1) := by decide +kernel
theorem dX10_begin_18 : decode cX10_begin 18 = .ok (.istore_n 3, 1) := by decide +kernel
theorem dX10_begin_19 : decode cX10_begin 19 = .ok (.aload_n 0, 1) := by decide +kernel
theorem dX10_begin_20 : decode cX10_begin 20 = .ok (.iconst 0, 1) := by decide +kernel
theorem dX10_begin_21 : decode cX10_begin 21 = .ok (.putfield 33, 3) := by decide +kernel
theorem dX10_begin_24 : decode cX10_begin 24 = .ok (.iconst 0, 1) := by decide +kernel
theorem dX10_begin_25 : decode cX10_begin 25 = .ok (.istore 4, 2) := by decide +kernel
theorem dX10_begin_27 : decode cX10_begin 27 = .ok (.iload 4, 2) := by decide +kernel
theorem dX10_begin_29 : decode cX10_begin 29 = .ok (.iload_n 2, 1) := by decide +kernel
theorem dX10_begin_30 : decode cX10_begin 30 = .ok (.if_icmp .ge 46, 3) := by decide +kernel
theorem dX10_begin_76 : decode cX10_begin 76 = .ok (.aload_n 0, 1) := by decide +kernel
theorem dX10_begin_77 : decode cX10_begin 77 = .ok (.aload_n 0, 1) := by decide +kernel
theorem dX10_begin_78 : decode cX10_begin 78 = .ok (.getfield 29, 3) := by decide +kernel
theorem dX10_begin_81 : decode cX10_begin 81 = .ok (.iload_n 1, 1) := by decide +kernel
theorem dX10_begin_82 : decode cX10_begin 82 = .ok (.if_icmp .le 8, 3) := by decide +kernel
theorem dX10_begin_90 : decode cX10_begin 90 = .ok (.bipush 102, 2) := by decide +kernel
theorem dX10_begin_92 : decode cX10_begin 92 = .ok (.iload_n 2, 1) := by decide +kernel
theorem dX10_begin_93 : decode cX10_begin 93 = .ok (.lconst 0, 1) := by decide +kernel
theorem dX10_begin_94 : decode cX10_begin 94 = .ok (.invokevirtual 80, 3) := by decide +kernel
theorem dX10_begin_97 : decode cX10_begin 97 = .ok (.aload_n 0, 1) := by decide +kernel
theorem dX10_begin_98 : decode cX10_begin 98 = .ok (.iconst 0, 1) := by decide +kernel
theorem dX10_begin_99 : decode cX10_begin 99 = .ok (.putfield 49, 3) := by decide +kernel
theorem dX10_begin_102 : decode cX10_begin 102 = .ok (.aload_n 0, 1) := by decide +kernel
theorem dX10_begin_103 : decode cX10_begin 103 = .ok (.iconst 0, 1) := by decide +kernel
theorem dX10_begin_104 : decode cX10_begin 104 = .ok (.putfield 52, 3) := by decide +kernel
theorem dX10_begin_107 : decode cX10_begin 107 = .ok (.aload_n 0, 1) := by decide +kernel
theorem dX10_begin_108 : decode cX10_begin 108 = .ok (.iconst (-1), 1) := by decide +kernel
theorem dX10_begin_109 : decode cX10_begin 109 = .ok (.putfield 36, 3) := by decide +kernel
theorem dX10_begin_112 : decode cX10_begin 112 = .ok (.aload_n 0, 1) := by decide +kernel
theorem dX10_begin_113 : decode cX10_begin 113 = .ok (.invokevirtual 84, 3) := by decide +kernel
theorem dX10_begin_116 : decode cX10_begin 116 = .ok (.return_, 1) := by decide +kernel
theorem dX10_byteOf_0 : decode cX10_byteOf 0 = .ok (.iload_n 1, 1) := by decide +kernel
theorem dX10_byteOf_1 : decode cX10_byteOf 1 = .ok (.ifCond .lt 33, 3) := by decide +kernel
theorem dX10_byteOf_4 : decode cX10_byteOf 4 = .ok (.iload_n 1, 1) := by decide +kernel
theorem dX10_byteOf_5 : decode cX10_byteOf 5 = .ok (.aload_n 0, 1) := by decide +kernel
theorem dX10_byteOf_6 : decode cX10_byteOf 6 = .ok (.getfield 29, 3) := by decide +kernel
theorem dX10_byteOf_9 : decode cX10_byteOf 9 = .ok (.if_icmp .ge 25, 3) := by decide +kernel
theorem dX10_byteOf_34 : decode cX10_byteOf 34 = .ok (.iconst (-1), 1) := by decide +kernel
theorem dX10_byteOf_35 : decode cX10_byteOf 35 = .ok (.ireturn, 1) := by decide +kernel
theorem dX10_fail_0 : decode cX10_fail 0 = .ok (.aload_n 0, 1) := by decide +kernel
theorem dX10_fail_1 : decode cX10_fail 1 = .ok (.getfield 49, 3) := by decide +kernel
theorem dX10_fail_4 : decode cX10_fail 4 = .ok (.ifCond .ne 16, 3) := by decide +kernel
theorem dX10_fail_7 : decode cX10_fail 7 = .ok (.aload_n 0, 1) := by decide +kernel
theorem dX10_fail_8 : decode cX10_fail 8 = .ok (.iload_n 1, 1) := by decide +kernel
theorem dX10_fail_9 : decode cX10_fail 9 = .ok (.putfield 49, 3) := by decide +kernel
theorem dX10_fail_12 : decode cX10_fail 12 = .ok (.aload_n 0, 1) := by decide +kernel
theorem dX10_fail_13 : decode cX10_fail 13 = .ok (.aload_n 0, 1) := by decide +kernel
theorem dX10_fail_14 : decode cX10_fail 14 = .ok (.getfield 42, 3) := by decide +kernel
theorem dX10_fail_17 : decode cX10_fail 17 = .ok (.putfield 52, 3) := by decide +kernel
theorem dX10_fail_20 : decode cX10_fail 20 = .ok (.iconst 0, 1) := by decide +kernel
theorem dX10_fail_21 : decode cX10_fail 21 = .ok (.ireturn, 1) := by decide +kernel
theorem ow_ne {ow : Nat → Nat × Nat} {b c a k a2 k2 : Nat} (h1 : ow b = (a, k)) (h2 : ow c = (a2, k2)) (h : k ≠ k2) : b ≠ c := fun q => by rw [q, h2] at h1; exact h (Prod.mk.inj h1).2.symm
set_option maxRecDepth 100000 in
set_option maxHeartbeats 4000000 in
theorem c_Tape_addToken0 {l : Launch} {D : va_G} {cy : Nat → ClassId} {L : List Nat} {κ ln : Nat → Nat} {R : Nat → Nat → Option Nat} {I : Nat → Nat → Int32} {J : Nat → Nat → Int64} {ow : Nat → Nat × Nat} (W9 : ∀ a ∈ L, Shp L κ ln R ow a) {t : Nat} (hLt : t ∈ L) (hkt : κ t = 10) (h6 : I t 6 = 0) (x y : Int32) (z : Int64) : CtV l yX10_addToken cX10_addToken 5 none { frames := 0, cells := 0, slots := 0, locals := 0 } D cy L κ ln R I J [.ref t, .int x, .int y, .long z] (fun I2 J2 => Fj κ [15] J J2 ∧ Fk κ [10, 14] I I2 ∧ (∀ j, j ≠ 6 → I2 t j = I t j) ∧ I2 t 6 = 1 ∧ (∀ b, R t 2 = some b → I2 b 0 = x) ∧ (∀ b, R t 3 = some b → I2 b 0 = y)) := by
  refine CtV.of (by decide +kernel) (Nat.le_of_ble_eq_true rfl) ?_
  intro p e s m below meth c B K
  have C := B.1
  refine g_lo (is := [0, 1, 2, 3]) (lo2 := [(0, .ref t), (1, .int x), (2, .int y), (3, .long z)]) rfl ?_
  refine g_aload_n C 0 dX10_addToken_0 rfl rfl ?_
  refine g_getI C K hLt hkt f_10_33 (v := 0) (h6) dX10_addToken_1 ?_
  refine g_aload_n C 0 dX10_addToken_4 rfl rfl ?_
  obtain ⟨b_118, hb_118, hb_118L, hb_118k, hb_118n, hb_118o⟩ := shp_a (W9 t hLt) hkt 2 14 901 rfl (by decide)
  refine g_getR C K hLt hkt f_10_19 hb_118 dX10_addToken_5 ?_
  refine g_alenI C K hb_118L hb_118k (v := 901) (by rw [hb_118n]; rfl) dX10_addToken_8 ?_
  refine n_icmp_ge C (tgt := 52) (by decide) dX10_addToken_9 (by decide) ?_
  refine g_aload_n C 0 dX10_addToken_12 rfl rfl ?_
  refine g_getR C K hLt hkt f_10_19 hb_118 dX10_addToken_13 ?_
  refine g_aload_n C 0 dX10_addToken_16 rfl rfl ?_
  refine g_getI C K hLt hkt f_10_33 (v := 0) (h6) dX10_addToken_17 ?_
  refine g_iload_n C 1 dX10_addToken_20 rfl rfl ?_
  refine h_iast C K hb_118L hb_118k (0) (by decide) (by decide) (by rw [hb_118n]; decide) dX10_addToken_21 (fun I_119 hI_119 => ?_)
  refine g_aload_n C 0 dX10_addToken_22 rfl rfl ?_
  obtain ⟨b_120, hb_120, hb_120L, hb_120k, hb_120n, hb_120o⟩ := shp_a (W9 t hLt) hkt 3 14 901 rfl (by decide)
  refine g_getR C K hLt hkt f_10_23 hb_120 dX10_addToken_23 ?_
  refine g_aload_n C 0 dX10_addToken_26 rfl rfl ?_
  refine g_getI C K hLt hkt f_10_33 (v := 0) (by rw [hI_119, u2_j (by decide)]; exact h6) dX10_addToken_27 ?_
  refine g_iload_n C 2 dX10_addToken_30 rfl rfl ?_
  refine h_iast C K hb_120L hb_120k (0) (by decide) (by decide) (by rw [hb_120n]; decide) dX10_addToken_31 (fun I_121 hI_121 => ?_)
  refine g_aload_n C 0 dX10_addToken_32 rfl rfl ?_
  obtain ⟨b_122, hb_122, hb_122L, hb_122k, hb_122n, hb_122o⟩ := shp_a (W9 t hLt) hkt 4 15 901 rfl (by decide)
  refine g_getR C K hLt hkt f_10_26 hb_122 dX10_addToken_33 ?_
  refine g_aload_n C 0 dX10_addToken_36 rfl rfl ?_
  refine g_getI C K hLt hkt f_10_33 (v := 0) (by rw [hI_121, u2_j (by decide), hI_119, u2_j (by decide)]; exact h6) dX10_addToken_37 ?_
  refine g_lload_n C 3 dX10_addToken_40 rfl rfl ?_
  refine h_last C K hb_122L hb_122k (0) (by decide) (by decide) (by rw [hb_122n]; decide) dX10_addToken_41 (fun J_123 hJ_123 => ?_)
  refine g_aload_n C 0 dX10_addToken_42 rfl rfl ?_
  refine g_dup C dX10_addToken_43 rfl ?_
  refine g_getI C K hLt hkt f_10_33 (v := 0) (by rw [hI_121, u2_j (by decide), hI_119, u2_j (by decide)]; exact h6) dX10_addToken_44 ?_
  refine g_iconst C (v := 1) dX10_addToken_47 (by decide) ?_
  refine g_iadd C (v := 1) dX10_addToken_48 (by decide) ?_
  refine h_putI C K hLt hkt f_10_33 p_10_6 dX10_addToken_49 (fun I_124 hI_124 => ?_)
  exact g_vret B K rfl (⟨(Fj.rf).u2 hJ_123 hb_122k (by decide), (((Fk.rf).u2 hI_119 hb_118k (by decide)).u2 hI_121 hb_120k (by decide)).u2 hI_124 hkt (by decide), fun j h0 => by rw [hI_124, u2_j h0, hI_121, u2_k (κ := κ) (by rw [hkt, hb_120k]; decide), hI_119, u2_k (κ := κ) (by rw [hkt, hb_118k]; decide)], by rw [hI_124]; exact u2_s, fun q hq => by rw [hb_118] at hq; cases hq; exact (by rw [hI_124, u2_j (by decide), hI_121, u2_b (ow_ne hb_118o hb_120o (by decide)), hI_119]; exact u2_s), fun q hq => by rw [hb_120] at hq; cases hq; exact (by rw [hI_124, u2_j (by decide), hI_121]; exact u2_s)⟩) dX10_addToken_52
set_option maxRecDepth 100000 in
set_option maxHeartbeats 4000000 in
theorem c_Tape_advance0 {l : Launch} {D : va_G} {cy : Nat → ClassId} {L : List Nat} {κ ln : Nat → Nat} {R : Nat → Nat → Option Nat} {I : Nat → Nat → Int32} {J : Nat → Nat → Int64} {ow : Nat → Nat × Nat} (W9 : ∀ a ∈ L, Shp L κ ln R ow a) {t : Nat} (hLt : t ∈ L) (hkt : κ t = 10) (h6 : I t 6 = 1) (h7 : I t 7 = -1) {x y : Int32} (h2 : ∀ b, R t 2 = some b → I b 0 = x) (h3 : ∀ b, R t 3 = some b → I b 0 = y) : CtV l yX10_advance cX10_advance 1 none { frames := 0, cells := 0, slots := 0, locals := 0 } D cy L κ ln R I J [.ref t] (fun I2 J2 => Fj κ [10] J J2 ∧ Fk κ [10] I I2 ∧ (∀ j, j ≠ 7 → j ≠ 8 → j ≠ 9 → I2 t j = I t j) ∧ I2 t 8 = x ∧ I2 t 9 = y) := by
  refine CtV.of (by decide +kernel) (Nat.le_of_ble_eq_true rfl) ?_
  intro p e s m below meth c B K
  have C := B.1
  refine g_lo (is := [0]) (lo2 := [(0, .ref t)]) rfl ?_
  refine g_aload_n C 0 dX10_advance_0 rfl rfl ?_
  refine g_getI C K hLt hkt f_10_36 (v := (-1)) (h7) dX10_advance_1 ?_
  refine g_iconst C (v := 1) dX10_advance_4 (by decide) ?_
  refine g_iadd C (v := 0) dX10_advance_5 (by decide) ?_
  refine g_aload_n C 0 dX10_advance_6 rfl rfl ?_
  refine g_getI C K hLt hkt f_10_33 (v := 1) (h6) dX10_advance_7 ?_
  refine n_icmp_ge C (tgt := 62) (by decide) dX10_advance_10 (by decide) ?_
  refine g_aload_n C 0 dX10_advance_13 rfl rfl ?_
  refine g_dup C dX10_advance_14 rfl ?_
  refine g_getI C K hLt hkt f_10_36 (v := (-1)) (h7) dX10_advance_15 ?_
  refine g_iconst C (v := 1) dX10_advance_18 (by decide) ?_
  refine g_iadd C (v := 0) dX10_advance_19 (by decide) ?_
  refine h_putI C K hLt hkt f_10_36 p_10_7 dX10_advance_20 (fun I_125 hI_125 => ?_)
  refine g_aload_n C 0 dX10_advance_23 rfl rfl ?_
  refine g_aload_n C 0 dX10_advance_24 rfl rfl ?_
  obtain ⟨b_126, hb_126, hb_126L, hb_126k, hb_126n, hb_126o⟩ := shp_a (W9 t hLt) hkt 2 14 901 rfl (by decide)
  refine g_getR C K hLt hkt f_10_19 hb_126 dX10_advance_25 ?_
  refine g_aload_n C 0 dX10_advance_28 rfl rfl ?_
  refine g_getI C K hLt hkt f_10_36 (v := 0) (by rw [hI_125]; exact u2_s) dX10_advance_29 ?_
  refine h_iald C K hb_126L hb_126k (v := x) (0) (by decide) (by decide) (by rw [hb_126n]; decide) (by rw [hI_125, u2_j (by decide)]; exact h2 b_126 hb_126) dX10_advance_32 ?_
  refine h_putI C K hLt hkt f_10_39 p_10_8 dX10_advance_33 (fun I_127 hI_127 => ?_)
  refine g_aload_n C 0 dX10_advance_36 rfl rfl ?_
  refine g_aload_n C 0 dX10_advance_37 rfl rfl ?_
  obtain ⟨b_128, hb_128, hb_128L, hb_128k, hb_128n, hb_128o⟩ := shp_a (W9 t hLt) hkt 3 14 901 rfl (by decide)
  refine g_getR C K hLt hkt f_10_23 hb_128 dX10_advance_38 ?_
  refine g_aload_n C 0 dX10_advance_41 rfl rfl ?_
  refine g_getI C K hLt hkt f_10_36 (v := 0) (by rw [hI_127, u2_j (by decide), hI_125]; exact u2_s) dX10_advance_42 ?_
  refine h_iald C K hb_128L hb_128k (v := y) (0) (by decide) (by decide) (by rw [hb_128n]; decide) (by rw [hI_127, u2_j (by decide), hI_125, u2_j (by decide)]; exact h3 b_128 hb_128) dX10_advance_45 ?_
  refine h_putI C K hLt hkt f_10_42 p_10_9 dX10_advance_46 (fun I_129 hI_129 => ?_)
  refine g_aload_n C 0 dX10_advance_49 rfl rfl ?_
  refine g_aload_n C 0 dX10_advance_50 rfl rfl ?_
  obtain ⟨b_130, hb_130, hb_130L, hb_130k, hb_130n, hb_130o⟩ := shp_a (W9 t hLt) hkt 4 15 901 rfl (by decide)
  refine g_getR C K hLt hkt f_10_26 hb_130 dX10_advance_51 ?_
  refine g_aload_n C 0 dX10_advance_54 rfl rfl ?_
  refine g_getI C K hLt hkt f_10_36 (v := 0) (by rw [hI_129, u2_j (by decide), hI_127, u2_j (by decide), hI_125]; exact u2_s) dX10_advance_55 ?_
  obtain ⟨x_131, hx_131⟩ : ∃ z, J b_130 (0) = z := ⟨_, rfl⟩
  refine h_lald C K hb_130L hb_130k (v := x_131) (0) (by decide) (by decide) (by rw [hb_130n]; decide) (hx_131) dX10_advance_58 ?_
  refine h_putJ C K hLt hkt f_10_45 p_10_10 dX10_advance_59 (fun J_132 hJ_132 => ?_)
  exact g_vret B K rfl (⟨(Fj.rf).u2 hJ_132 hkt (by decide), (((Fk.rf).u2 hI_125 hkt (by decide)).u2 hI_127 hkt (by decide)).u2 hI_129 hkt (by decide), fun j h0 h1 h2 => by rw [hI_129, u2_j h2, hI_127, u2_j h1, hI_125, u2_j h0], by rw [hI_129, u2_j (by decide), hI_127]; exact u2_s, by rw [hI_129]; exact u2_s⟩) dX10_advance_62
set_option maxRecDepth 100000 in
set_option maxHeartbeats 4000000 in
theorem c_Tape_begin_900 {l : Launch} {D : va_G} {cy : Nat → ClassId} {L : List Nat} {κ ln : Nat → Nat} {R : Nat → Nat → Option Nat} {I : Nat → Nat → Int32} {J : Nat → Nat → Int64} {ow : Nat → Nat × Nat} (W9 : ∀ a ∈ L, Shp L κ ln R ow a) {t : Nat} (hLt : t ∈ L) (hkt : κ t = 10) (h5 : I t 5 = 0) : CtV l yX10_begin cX10_begin 5 none { frames := 1, cells := 0, slots := 0, locals := 100 } D cy L κ ln R I J [.ref t, .int 900] (fun I2 J2 => Fj κ [10, 15] J J2 ∧ Fk κ [10, 14] I I2 ∧ I2 t 5 = 0 ∧ I2 t 8 = 102 ∧ I2 t 9 = 0 ∧ I2 t 11 = 0 ∧ I2 t 12 = 0) := by
  refine CtV.of (by decide +kernel) (Nat.le_of_ble_eq_true rfl) ?_
  intro p e s m below meth c B K
  have C := B.1
  refine g_lo (is := [0, 1]) (lo2 := [(0, .ref t), (1, .int 900)]) rfl ?_
  refine g_aload_n C 0 dX10_begin_0 rfl rfl ?_
  refine g_getI C K hLt hkt f_10_29 (v := 0) (h5) dX10_begin_1 ?_
  refine g_iload_n C 1 dX10_begin_4 rfl rfl ?_
  refine g_mmin C (v := 0) mw_10_70 w_min (Nat.le_of_ble_eq_true rfl) (Nat.le_of_ble_eq_true rfl) ⟨Nat.le_of_ble_eq_true rfl, Nat.le_of_ble_eq_true rfl⟩ (by decide) dX10_begin_5 ?_
  refine g_aload_n C 0 dX10_begin_8 rfl rfl ?_
  obtain ⟨b_133, hb_133, hb_133L, hb_133k, hb_133n, hb_133o⟩ := shp_a (W9 t hLt) hkt 0 13 940 rfl (by decide)
  refine g_getR C K hLt hkt f_10_9 hb_133 dX10_begin_9 ?_
  refine g_alenB C K hb_133L hb_133k (v := 940) (by rw [hb_133n]; rfl) dX10_begin_12 ?_
  refine g_mmin C (v := 0) mw_10_70 w_min (Nat.le_of_ble_eq_true rfl) (Nat.le_of_ble_eq_true rfl) ⟨Nat.le_of_ble_eq_true rfl, Nat.le_of_ble_eq_true rfl⟩ (by decide) dX10_begin_13 ?_
  refine g_istore_n C dX10_begin_16 rfl (by decide) (lo2 := [(2, .int 0), (0, .ref t), (1, .int 900)]) rfl ?_
  refine g_iconst C (v := 0) dX10_begin_17 (by decide) ?_
  refine g_istore_n C dX10_begin_18 rfl (by decide) (lo2 := [(3, .int 0), (2, .int 0), (0, .ref t), (1, .int 900)]) rfl ?_
  refine g_aload_n C 2 dX10_begin_19 rfl rfl ?_
  refine g_iconst C (v := 0) dX10_begin_20 (by decide) ?_
  refine h_putI C K hLt hkt f_10_33 p_10_6 dX10_begin_21 (fun I_134 hI_134 => ?_)
  refine g_iconst C (v := 0) dX10_begin_24 (by decide) ?_
  refine g_istore C dX10_begin_25 (by decide) (lo2 := [(4, .int 0), (3, .int 0), (2, .int 0), (0, .ref t), (1, .int 900)]) rfl ?_
  refine g_iload C 0 dX10_begin_27 rfl ?_
  refine g_iload_n C 2 dX10_begin_29 rfl rfl ?_
  refine t_icmp_ge C (tgt := 76) (by decide) dX10_begin_30 (by decide) ?_
  refine g_aload_n C 3 dX10_begin_76 rfl rfl ?_
  refine g_aload_n C 3 dX10_begin_77 rfl rfl ?_
  refine g_getI C K hLt hkt f_10_29 (v := 0) (by rw [hI_134, u2_j (by decide)]; exact h5) dX10_begin_78 ?_
  refine g_iload_n C 4 dX10_begin_81 rfl rfl ?_
  refine t_icmp_le C (tgt := 90) (by decide) dX10_begin_82 (by decide) ?_
  refine g_bipush C (v := 102) dX10_begin_90 (by decide) ?_
  refine g_iload_n C 2 dX10_begin_92 rfl rfl ?_
  refine g_lconst C (v := 0) dX10_begin_93 (by decide) ?_
  refine g_callVV C K (c_Tape_addToken0 W9 hLt hkt (by rw [hI_134]; exact u2_s) (102) (0) (0)) hLt hkt (by decide) rfl v_10_80 rfl ⟨rfl, rfl⟩ ⟨Nat.le_of_ble_eq_true rfl, Nat.le_of_ble_eq_true rfl⟩ (Nat.le_of_ble_eq_true rfl) ⟨Nat.le_of_ble_eq_true rfl, Nat.le_of_ble_eq_true rfl⟩ dX10_begin_94 rfl (st := []) (fun I_135 J_136 h_137 => ?_)
  obtain ⟨g_140, f_139, v_141, v_142, v_143, v_144⟩ := h_137
  refine g_aload_n C 3 dX10_begin_97 rfl rfl ?_
  refine g_iconst C (v := 0) dX10_begin_98 (by decide) ?_
  refine h_putI C K hLt hkt f_10_49 p_10_11 dX10_begin_99 (fun I_145 hI_145 => ?_)
  refine g_aload_n C 3 dX10_begin_102 rfl rfl ?_
  refine g_iconst C (v := 0) dX10_begin_103 (by decide) ?_
  refine h_putI C K hLt hkt f_10_52 p_10_12 dX10_begin_104 (fun I_146 hI_146 => ?_)
  refine g_aload_n C 3 dX10_begin_107 rfl rfl ?_
  refine g_iconst C (v := (-1)) dX10_begin_108 (by decide) ?_
  refine h_putI C K hLt hkt f_10_36 p_10_7 dX10_begin_109 (fun I_147 hI_147 => ?_)
  refine g_aload_n C 3 dX10_begin_112 rfl rfl ?_
  obtain ⟨b_152, hb_152, hb_152L, hb_152k, hb_152n, hb_152o⟩ := shp_a (W9 t hLt) hkt 2 14 901 rfl (by decide)
  obtain ⟨b_153, hb_153, hb_153L, hb_153k, hb_153n, hb_153o⟩ := shp_a (W9 t hLt) hkt 3 14 901 rfl (by decide)
  refine g_callVV C K (c_Tape_advance0 W9 hLt hkt (by rw [hI_147, u2_j (by decide), hI_146, u2_j (by decide), hI_145, u2_j (by decide)]; exact v_142) (by rw [hI_147]; exact u2_s) (x := 102) (y := 0) (fun b hb => by rw [hb_152] at hb; cases hb; exact (by rw [hI_147, u2_j (by decide), hI_146, u2_j (by decide), hI_145, u2_j (by decide)]; exact v_143 b_152 hb_152)) (fun b hb => by rw [hb_153] at hb; cases hb; exact (by rw [hI_147, u2_j (by decide), hI_146, u2_j (by decide), hI_145, u2_j (by decide)]; exact v_144 b_153 hb_153))) hLt hkt (by decide) rfl v_10_84 rfl ⟨rfl, rfl⟩ ⟨Nat.le_of_ble_eq_true rfl, Nat.le_of_ble_eq_true rfl⟩ (Nat.le_of_ble_eq_true rfl) ⟨Nat.le_of_ble_eq_true rfl, Nat.le_of_ble_eq_true rfl⟩ dX10_begin_113 rfl (st := []) (fun I_148 J_149 h_150 => ?_)
  obtain ⟨g_155, f_154, v_156, v_157, v_158⟩ := h_150
  exact g_vret B K rfl (⟨((Fj.rf).tr g_140 (by decide)).tr g_155 (by decide), ((((((Fk.rf).u2 hI_134 hkt (by decide)).tr f_139 (by decide)).u2 hI_145 hkt (by decide)).u2 hI_146 hkt (by decide)).u2 hI_147 hkt (by decide)).tr f_154 (by decide), by rw [v_156 5 (by decide) (by decide) (by decide), hI_147, u2_j (by decide), hI_146, u2_j (by decide), hI_145, u2_j (by decide), v_141 5 (by decide), hI_134, u2_j (by decide)]; exact h5, v_157, v_158, by rw [v_156 11 (by decide) (by decide) (by decide), hI_147, u2_j (by decide), hI_146, u2_j (by decide), hI_145]; exact u2_s, by rw [v_156 12 (by decide) (by decide) (by decide), hI_147, u2_j (by decide), hI_146]; exact u2_s⟩) dX10_begin_116
set_option maxRecDepth 100000 in
set_option maxHeartbeats 4000000 in
theorem c_Tape_begin_400 {l : Launch} {D : va_G} {cy : Nat → ClassId} {L : List Nat} {κ ln : Nat → Nat} {R : Nat → Nat → Option Nat} {I : Nat → Nat → Int32} {J : Nat → Nat → Int64} {ow : Nat → Nat × Nat} (W9 : ∀ a ∈ L, Shp L κ ln R ow a) {t : Nat} (hLt : t ∈ L) (hkt : κ t = 10) (h5 : I t 5 = 0) : CtV l yX10_begin cX10_begin 5 none { frames := 1, cells := 0, slots := 0, locals := 100 } D cy L κ ln R I J [.ref t, .int 400] (fun I2 J2 => Fj κ [10, 15] J J2 ∧ Fk κ [10, 14] I I2 ∧ I2 t 5 = 0 ∧ I2 t 8 = 102 ∧ I2 t 9 = 0 ∧ I2 t 11 = 0 ∧ I2 t 12 = 0) := by
  refine CtV.of (by decide +kernel) (Nat.le_of_ble_eq_true rfl) ?_
  intro p e s m below meth c B K
  have C := B.1
  refine g_lo (is := [0, 1]) (lo2 := [(0, .ref t), (1, .int 400)]) rfl ?_
  refine g_aload_n C 0 dX10_begin_0 rfl rfl ?_
  refine g_getI C K hLt hkt f_10_29 (v := 0) (h5) dX10_begin_1 ?_
  refine g_iload_n C 1 dX10_begin_4 rfl rfl ?_
  refine g_mmin C (v := 0) mw_10_70 w_min (Nat.le_of_ble_eq_true rfl) (Nat.le_of_ble_eq_true rfl) ⟨Nat.le_of_ble_eq_true rfl, Nat.le_of_ble_eq_true rfl⟩ (by decide) dX10_begin_5 ?_
  refine g_aload_n C 0 dX10_begin_8 rfl rfl ?_
  obtain ⟨b_159, hb_159, hb_159L, hb_159k, hb_159n, hb_159o⟩ := shp_a (W9 t hLt) hkt 0 13 940 rfl (by decide)
  refine g_getR C K hLt hkt f_10_9 hb_159 dX10_begin_9 ?_
  refine g_alenB C K hb_159L hb_159k (v := 940) (by rw [hb_159n]; rfl) dX10_begin_12 ?_
  refine g_mmin C (v := 0) mw_10_70 w_min (Nat.le_of_ble_eq_true rfl) (Nat.le_of_ble_eq_true rfl) ⟨Nat.le_of_ble_eq_true rfl, Nat.le_of_ble_eq_true rfl⟩ (by decide) dX10_begin_13 ?_
  refine g_istore_n C dX10_begin_16 rfl (by decide) (lo2 := [(2, .int 0), (0, .ref t), (1, .int 400)]) rfl ?_
  refine g_iconst C (v := 0) dX10_begin_17 (by decide) ?_
  refine g_istore_n C dX10_begin_18 rfl (by decide) (lo2 := [(3, .int 0), (2, .int 0), (0, .ref t), (1, .int 400)]) rfl ?_
  refine g_aload_n C 2 dX10_begin_19 rfl rfl ?_
  refine g_iconst C (v := 0) dX10_begin_20 (by decide) ?_
  refine h_putI C K hLt hkt f_10_33 p_10_6 dX10_begin_21 (fun I_160 hI_160 => ?_)
  refine g_iconst C (v := 0) dX10_begin_24 (by decide) ?_
  refine g_istore C dX10_begin_25 (by decide) (lo2 := [(4, .int 0), (3, .int 0), (2, .int 0), (0, .ref t), (1, .int 400)]) rfl ?_
  refine g_iload C 0 dX10_begin_27 rfl ?_
  refine g_iload_n C 2 dX10_begin_29 rfl rfl ?_
  refine t_icmp_ge C (tgt := 76) (by decide) dX10_begin_30 (by decide) ?_
  refine g_aload_n C 3 dX10_begin_76 rfl rfl ?_
  refine g_aload_n C 3 dX10_begin_77 rfl rfl ?_
  refine g_getI C K hLt hkt f_10_29 (v := 0) (by rw [hI_160, u2_j (by decide)]; exact h5) dX10_begin_78 ?_
  refine g_iload_n C 4 dX10_begin_81 rfl rfl ?_
  refine t_icmp_le C (tgt := 90) (by decide) dX10_begin_82 (by decide) ?_
  refine g_bipush C (v := 102) dX10_begin_90 (by decide) ?_
  refine g_iload_n C 2 dX10_begin_92 rfl rfl ?_
  refine g_lconst C (v := 0) dX10_begin_93 (by decide) ?_
  refine g_callVV C K (c_Tape_addToken0 W9 hLt hkt (by rw [hI_160]; exact u2_s) (102) (0) (0)) hLt hkt (by decide) rfl v_10_80 rfl ⟨rfl, rfl⟩ ⟨Nat.le_of_ble_eq_true rfl, Nat.le_of_ble_eq_true rfl⟩ (Nat.le_of_ble_eq_true rfl) ⟨Nat.le_of_ble_eq_true rfl, Nat.le_of_ble_eq_true rfl⟩ dX10_begin_94 rfl (st := []) (fun I_161 J_162 h_163 => ?_)
  obtain ⟨g_166, f_165, v_167, v_168, v_169, v_170⟩ := h_163
  refine g_aload_n C 3 dX10_begin_97 rfl rfl ?_
  refine g_iconst C (v := 0) dX10_begin_98 (by decide) ?_
  refine h_putI C K hLt hkt f_10_49 p_10_11 dX10_begin_99 (fun I_171 hI_171 => ?_)
  refine g_aload_n C 3 dX10_begin_102 rfl rfl ?_
  refine g_iconst C (v := 0) dX10_begin_103 (by decide) ?_
  refine h_putI C K hLt hkt f_10_52 p_10_12 dX10_begin_104 (fun I_172 hI_172 => ?_)
  refine g_aload_n C 3 dX10_begin_107 rfl rfl ?_
  refine g_iconst C (v := (-1)) dX10_begin_108 (by decide) ?_
  refine h_putI C K hLt hkt f_10_36 p_10_7 dX10_begin_109 (fun I_173 hI_173 => ?_)
  refine g_aload_n C 3 dX10_begin_112 rfl rfl ?_
  obtain ⟨b_178, hb_178, hb_178L, hb_178k, hb_178n, hb_178o⟩ := shp_a (W9 t hLt) hkt 2 14 901 rfl (by decide)
  obtain ⟨b_179, hb_179, hb_179L, hb_179k, hb_179n, hb_179o⟩ := shp_a (W9 t hLt) hkt 3 14 901 rfl (by decide)
  refine g_callVV C K (c_Tape_advance0 W9 hLt hkt (by rw [hI_173, u2_j (by decide), hI_172, u2_j (by decide), hI_171, u2_j (by decide)]; exact v_168) (by rw [hI_173]; exact u2_s) (x := 102) (y := 0) (fun b hb => by rw [hb_178] at hb; cases hb; exact (by rw [hI_173, u2_j (by decide), hI_172, u2_j (by decide), hI_171, u2_j (by decide)]; exact v_169 b_178 hb_178)) (fun b hb => by rw [hb_179] at hb; cases hb; exact (by rw [hI_173, u2_j (by decide), hI_172, u2_j (by decide), hI_171, u2_j (by decide)]; exact v_170 b_179 hb_179))) hLt hkt (by decide) rfl v_10_84 rfl ⟨rfl, rfl⟩ ⟨Nat.le_of_ble_eq_true rfl, Nat.le_of_ble_eq_true rfl⟩ (Nat.le_of_ble_eq_true rfl) ⟨Nat.le_of_ble_eq_true rfl, Nat.le_of_ble_eq_true rfl⟩ dX10_begin_113 rfl (st := []) (fun I_174 J_175 h_176 => ?_)
  obtain ⟨g_181, f_180, v_182, v_183, v_184⟩ := h_176
  exact g_vret B K rfl (⟨((Fj.rf).tr g_166 (by decide)).tr g_181 (by decide), ((((((Fk.rf).u2 hI_160 hkt (by decide)).tr f_165 (by decide)).u2 hI_171 hkt (by decide)).u2 hI_172 hkt (by decide)).u2 hI_173 hkt (by decide)).tr f_180 (by decide), by rw [v_182 5 (by decide) (by decide) (by decide), hI_173, u2_j (by decide), hI_172, u2_j (by decide), hI_171, u2_j (by decide), v_167 5 (by decide), hI_160, u2_j (by decide)]; exact h5, v_183, v_184, by rw [v_182 11 (by decide) (by decide) (by decide), hI_173, u2_j (by decide), hI_172, u2_j (by decide), hI_171]; exact u2_s, by rw [v_182 12 (by decide) (by decide) (by decide), hI_173, u2_j (by decide), hI_172]; exact u2_s⟩) dX10_begin_116
set_option maxRecDepth 100000 in
set_option maxHeartbeats 4000000 in
theorem c_Tape_begin_200 {l : Launch} {D : va_G} {cy : Nat → ClassId} {L : List Nat} {κ ln : Nat → Nat} {R : Nat → Nat → Option Nat} {I : Nat → Nat → Int32} {J : Nat → Nat → Int64} {ow : Nat → Nat × Nat} (W9 : ∀ a ∈ L, Shp L κ ln R ow a) {t : Nat} (hLt : t ∈ L) (hkt : κ t = 10) (h5 : I t 5 = 0) : CtV l yX10_begin cX10_begin 5 none { frames := 1, cells := 0, slots := 0, locals := 100 } D cy L κ ln R I J [.ref t, .int 200] (fun I2 J2 => Fj κ [10, 15] J J2 ∧ Fk κ [10, 14] I I2 ∧ I2 t 5 = 0 ∧ I2 t 8 = 102 ∧ I2 t 9 = 0 ∧ I2 t 11 = 0 ∧ I2 t 12 = 0) := by
  refine CtV.of (by decide +kernel) (Nat.le_of_ble_eq_true rfl) ?_
  intro p e s m below meth c B K
  have C := B.1
  refine g_lo (is := [0, 1]) (lo2 := [(0, .ref t), (1, .int 200)]) rfl ?_
  refine g_aload_n C 0 dX10_begin_0 rfl rfl ?_
  refine g_getI C K hLt hkt f_10_29 (v := 0) (h5) dX10_begin_1 ?_
  refine g_iload_n C 1 dX10_begin_4 rfl rfl ?_
  refine g_mmin C (v := 0) mw_10_70 w_min (Nat.le_of_ble_eq_true rfl) (Nat.le_of_ble_eq_true rfl) ⟨Nat.le_of_ble_eq_true rfl, Nat.le_of_ble_eq_true rfl⟩ (by decide) dX10_begin_5 ?_
  refine g_aload_n C 0 dX10_begin_8 rfl rfl ?_
  obtain ⟨b_185, hb_185, hb_185L, hb_185k, hb_185n, hb_185o⟩ := shp_a (W9 t hLt) hkt 0 13 940 rfl (by decide)
  refine g_getR C K hLt hkt f_10_9 hb_185 dX10_begin_9 ?_
  refine g_alenB C K hb_185L hb_185k (v := 940) (by rw [hb_185n]; rfl) dX10_begin_12 ?_
  refine g_mmin C (v := 0) mw_10_70 w_min (Nat.le_of_ble_eq_true rfl) (Nat.le_of_ble_eq_true rfl) ⟨Nat.le_of_ble_eq_true rfl, Nat.le_of_ble_eq_true rfl⟩ (by decide) dX10_begin_13 ?_
  refine g_istore_n C dX10_begin_16 rfl (by decide) (lo2 := [(2, .int 0), (0, .ref t), (1, .int 200)]) rfl ?_
  refine g_iconst C (v := 0) dX10_begin_17 (by decide) ?_
  refine g_istore_n C dX10_begin_18 rfl (by decide) (lo2 := [(3, .int 0), (2, .int 0), (0, .ref t), (1, .int 200)]) rfl ?_
  refine g_aload_n C 2 dX10_begin_19 rfl rfl ?_
  refine g_iconst C (v := 0) dX10_begin_20 (by decide) ?_
  refine h_putI C K hLt hkt f_10_33 p_10_6 dX10_begin_21 (fun I_186 hI_186 => ?_)
  refine g_iconst C (v := 0) dX10_begin_24 (by decide) ?_
  refine g_istore C dX10_begin_25 (by decide) (lo2 := [(4, .int 0), (3, .int 0), (2, .int 0), (0, .ref t), (1, .int 200)]) rfl ?_
  refine g_iload C 0 dX10_begin_27 rfl ?_
  refine g_iload_n C 2 dX10_begin_29 rfl rfl ?_
  refine t_icmp_ge C (tgt := 76) (by decide) dX10_begin_30 (by decide) ?_
  refine g_aload_n C 3 dX10_begin_76 rfl rfl ?_
  refine g_aload_n C 3 dX10_begin_77 rfl rfl ?_
  refine g_getI C K hLt hkt f_10_29 (v := 0) (by rw [hI_186, u2_j (by decide)]; exact h5) dX10_begin_78 ?_
  refine g_iload_n C 4 dX10_begin_81 rfl rfl ?_
  refine t_icmp_le C (tgt := 90) (by decide) dX10_begin_82 (by decide) ?_
  refine g_bipush C (v := 102) dX10_begin_90 (by decide) ?_
  refine g_iload_n C 2 dX10_begin_92 rfl rfl ?_
  refine g_lconst C (v := 0) dX10_begin_93 (by decide) ?_
  refine g_callVV C K (c_Tape_addToken0 W9 hLt hkt (by rw [hI_186]; exact u2_s) (102) (0) (0)) hLt hkt (by decide) rfl v_10_80 rfl ⟨rfl, rfl⟩ ⟨Nat.le_of_ble_eq_true rfl, Nat.le_of_ble_eq_true rfl⟩ (Nat.le_of_ble_eq_true rfl) ⟨Nat.le_of_ble_eq_true rfl, Nat.le_of_ble_eq_true rfl⟩ dX10_begin_94 rfl (st := []) (fun I_187 J_188 h_189 => ?_)
  obtain ⟨g_192, f_191, v_193, v_194, v_195, v_196⟩ := h_189
  refine g_aload_n C 3 dX10_begin_97 rfl rfl ?_
  refine g_iconst C (v := 0) dX10_begin_98 (by decide) ?_
  refine h_putI C K hLt hkt f_10_49 p_10_11 dX10_begin_99 (fun I_197 hI_197 => ?_)
  refine g_aload_n C 3 dX10_begin_102 rfl rfl ?_
  refine g_iconst C (v := 0) dX10_begin_103 (by decide) ?_
  refine h_putI C K hLt hkt f_10_52 p_10_12 dX10_begin_104 (fun I_198 hI_198 => ?_)
  refine g_aload_n C 3 dX10_begin_107 rfl rfl ?_
  refine g_iconst C (v := (-1)) dX10_begin_108 (by decide) ?_
  refine h_putI C K hLt hkt f_10_36 p_10_7 dX10_begin_109 (fun I_199 hI_199 => ?_)
  refine g_aload_n C 3 dX10_begin_112 rfl rfl ?_
  obtain ⟨b_204, hb_204, hb_204L, hb_204k, hb_204n, hb_204o⟩ := shp_a (W9 t hLt) hkt 2 14 901 rfl (by decide)
  obtain ⟨b_205, hb_205, hb_205L, hb_205k, hb_205n, hb_205o⟩ := shp_a (W9 t hLt) hkt 3 14 901 rfl (by decide)
  refine g_callVV C K (c_Tape_advance0 W9 hLt hkt (by rw [hI_199, u2_j (by decide), hI_198, u2_j (by decide), hI_197, u2_j (by decide)]; exact v_194) (by rw [hI_199]; exact u2_s) (x := 102) (y := 0) (fun b hb => by rw [hb_204] at hb; cases hb; exact (by rw [hI_199, u2_j (by decide), hI_198, u2_j (by decide), hI_197, u2_j (by decide)]; exact v_195 b_204 hb_204)) (fun b hb => by rw [hb_205] at hb; cases hb; exact (by rw [hI_199, u2_j (by decide), hI_198, u2_j (by decide), hI_197, u2_j (by decide)]; exact v_196 b_205 hb_205))) hLt hkt (by decide) rfl v_10_84 rfl ⟨rfl, rfl⟩ ⟨Nat.le_of_ble_eq_true rfl, Nat.le_of_ble_eq_true rfl⟩ (Nat.le_of_ble_eq_true rfl) ⟨Nat.le_of_ble_eq_true rfl, Nat.le_of_ble_eq_true rfl⟩ dX10_begin_113 rfl (st := []) (fun I_200 J_201 h_202 => ?_)
  obtain ⟨g_207, f_206, v_208, v_209, v_210⟩ := h_202
  exact g_vret B K rfl (⟨((Fj.rf).tr g_192 (by decide)).tr g_207 (by decide), ((((((Fk.rf).u2 hI_186 hkt (by decide)).tr f_191 (by decide)).u2 hI_197 hkt (by decide)).u2 hI_198 hkt (by decide)).u2 hI_199 hkt (by decide)).tr f_206 (by decide), by rw [v_208 5 (by decide) (by decide) (by decide), hI_199, u2_j (by decide), hI_198, u2_j (by decide), hI_197, u2_j (by decide), v_193 5 (by decide), hI_186, u2_j (by decide)]; exact h5, v_209, v_210, by rw [v_208 11 (by decide) (by decide) (by decide), hI_199, u2_j (by decide), hI_198, u2_j (by decide), hI_197]; exact u2_s, by rw [v_208 12 (by decide) (by decide) (by decide), hI_199, u2_j (by decide), hI_198]; exact u2_s⟩) dX10_begin_116
set_option maxRecDepth 100000 in
set_option maxHeartbeats 4000000 in
theorem c_Tape_fail0 {l : Launch} {D : va_G} {cy : Nat → ClassId} {L : List Nat} {κ ln : Nat → Nat} {R : Nat → Nat → Option Nat} {I : Nat → Nat → Int32} {J : Nat → Nat → Int64} {t : Nat} (hLt : t ∈ L) (hkt : κ t = 10) (h11 : I t 11 = 0) (x y : Int32) (h9 : I t 9 = y) : CtI l yX10_fail cX10_fail 2 (some .boolean) { frames := 0, cells := 0, slots := 0, locals := 0 } D cy L κ ln R I J [.ref t, .int x] (fun r I2 J2 => J = J2 ∧ Fk κ [10] I I2 ∧ I2 t 11 = x ∧ I2 t 12 = y ∧ r = 0) := by
  refine CtI.of (by decide +kernel) (Nat.le_of_ble_eq_true rfl) ?_
  intro p e s m below meth c B K
  have C := B.1
  refine g_lo (is := [0, 1]) (lo2 := [(0, .ref t), (1, .int x)]) rfl ?_
  refine g_aload_n C 0 dX10_fail_0 rfl rfl ?_
  refine g_getI C K hLt hkt f_10_49 (v := 0) (h11) dX10_fail_1 ?_
  refine n_if_ne C (tgt := 20) (by decide) dX10_fail_4 (by decide) ?_
  refine g_aload_n C 0 dX10_fail_7 rfl rfl ?_
  refine g_iload_n C 1 dX10_fail_8 rfl rfl ?_
  refine h_putI C K hLt hkt f_10_49 p_10_11 dX10_fail_9 (fun I_211 hI_211 => ?_)
  refine g_aload_n C 0 dX10_fail_12 rfl rfl ?_
  refine g_aload_n C 0 dX10_fail_13 rfl rfl ?_
  refine g_getI C K hLt hkt f_10_42 (v := y) (by rw [hI_211, u2_j (by decide)]; exact h9) dX10_fail_14 ?_
  refine h_putI C K hLt hkt f_10_52 p_10_12 dX10_fail_17 (fun I_212 hI_212 => ?_)
  refine g_iconst C (v := 0) dX10_fail_20 (by decide) ?_
  exact g_zret (ty := .boolean) (r := 0) B K rfl (by decide) (⟨rfl, ((Fk.rf).u2 hI_211 hkt (by decide)).u2 hI_212 hkt (by decide), by rw [hI_212, u2_j (by decide), hI_211]; exact u2_s, by rw [hI_212]; exact u2_s, rfl⟩) dX10_fail_21
set_option maxRecDepth 100000 in
set_option maxHeartbeats 4000000 in
theorem c_Tape_byteOf0_0 {l : Launch} {D : va_G} {cy : Nat → ClassId} {L : List Nat} {κ ln : Nat → Nat} {R : Nat → Nat → Option Nat} {I : Nat → Nat → Int32} {J : Nat → Nat → Int64} {t : Nat} (hLt : t ∈ L) (hkt : κ t = 10) (h5 : I t 5 = 0) : CtI l yX10_byteOf cX10_byteOf 2 (some .int) { frames := 0, cells := 0, slots := 0, locals := 0 } D cy L κ ln R I J [.ref t, .int 0] (fun r I2 J2 => I = I2 ∧ J = J2 ∧ r = -1) := by
  refine CtI.of (by decide +kernel) (Nat.le_of_ble_eq_true rfl) ?_
  intro p e s m below meth c B K
  have C := B.1
  refine g_lo (is := [0, 1]) (lo2 := [(0, .ref t), (1, .int 0)]) rfl ?_
  refine g_iload_n C 1 dX10_byteOf_0 rfl rfl ?_
  refine n_if_lt C (tgt := 34) (by decide) dX10_byteOf_1 (by decide) ?_
  refine g_iload_n C 1 dX10_byteOf_4 rfl rfl ?_
  refine g_aload_n C 0 dX10_byteOf_5 rfl rfl ?_
  refine g_getI C K hLt hkt f_10_29 (v := 0) (h5) dX10_byteOf_6 ?_
  refine t_icmp_ge C (tgt := 34) (by decide) dX10_byteOf_9 (by decide) ?_
  refine g_iconst C (v := (-1)) dX10_byteOf_34 (by decide) ?_
  exact g_zret (ty := .int) (r := (-1)) B K rfl rfl (⟨rfl, rfl, rfl⟩) dX10_byteOf_35
set_option maxRecDepth 100000 in
set_option maxHeartbeats 4000000 in
theorem c_Tape_byteOf0_1 {l : Launch} {D : va_G} {cy : Nat → ClassId} {L : List Nat} {κ ln : Nat → Nat} {R : Nat → Nat → Option Nat} {I : Nat → Nat → Int32} {J : Nat → Nat → Int64} {t : Nat} (hLt : t ∈ L) (hkt : κ t = 10) (h5 : I t 5 = 0) : CtI l yX10_byteOf cX10_byteOf 2 (some .int) { frames := 0, cells := 0, slots := 0, locals := 0 } D cy L κ ln R I J [.ref t, .int 1] (fun r I2 J2 => I = I2 ∧ J = J2 ∧ r = -1) := by
  refine CtI.of (by decide +kernel) (Nat.le_of_ble_eq_true rfl) ?_
  intro p e s m below meth c B K
  have C := B.1
  refine g_lo (is := [0, 1]) (lo2 := [(0, .ref t), (1, .int 1)]) rfl ?_
  refine g_iload_n C 1 dX10_byteOf_0 rfl rfl ?_
  refine n_if_lt C (tgt := 34) (by decide) dX10_byteOf_1 (by decide) ?_
  refine g_iload_n C 1 dX10_byteOf_4 rfl rfl ?_
  refine g_aload_n C 0 dX10_byteOf_5 rfl rfl ?_
  refine g_getI C K hLt hkt f_10_29 (v := 0) (h5) dX10_byteOf_6 ?_
  refine t_icmp_ge C (tgt := 34) (by decide) dX10_byteOf_9 (by decide) ?_
  refine g_iconst C (v := (-1)) dX10_byteOf_34 (by decide) ?_
  exact g_zret (ty := .int) (r := (-1)) B K rfl rfl (⟨rfl, rfl, rfl⟩) dX10_byteOf_35
