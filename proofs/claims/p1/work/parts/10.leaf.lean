theorem dX10_add_0 : decode cX10_add 0 = .ok (.bipush 24, 2) := by decide +kernel
theorem dX10_add_2 : decode cX10_add 2 = .ok (.istore_n 2, 1) := by decide +kernel
theorem dX10_add_3 : decode cX10_add 3 = .ok (.iload_n 2, 1) := by decide +kernel
theorem dX10_add_4 : decode cX10_add 4 = .ok (.ifCond .lt 44, 3) := by decide +kernel
theorem dX10_add_7 : decode cX10_add 7 = .ok (.aload_n 0, 1) := by decide +kernel
theorem dX10_add_8 : decode cX10_add 8 = .ok (.getfield 29, 3) := by decide +kernel
theorem dX10_add_11 : decode cX10_add 11 = .ok (.aload_n 0, 1) := by decide +kernel
theorem dX10_add_12 : decode cX10_add 12 = .ok (.getfield 9, 3) := by decide +kernel
theorem dX10_add_15 : decode cX10_add 15 = .ok (.arraylength, 1) := by decide +kernel
theorem dX10_add_16 : decode cX10_add 16 = .ok (.if_icmp .ge 32, 3) := by decide +kernel
theorem dX10_add_19 : decode cX10_add 19 = .ok (.aload_n 0, 1) := by decide +kernel
theorem dX10_add_20 : decode cX10_add 20 = .ok (.getfield 9, 3) := by decide +kernel
theorem dX10_add_23 : decode cX10_add 23 = .ok (.aload_n 0, 1) := by decide +kernel
theorem dX10_add_24 : decode cX10_add 24 = .ok (.getfield 29, 3) := by decide +kernel
theorem dX10_add_27 : decode cX10_add 27 = .ok (.iload_n 1, 1) := by decide +kernel
theorem dX10_add_28 : decode cX10_add 28 = .ok (.iload_n 2, 1) := by decide +kernel
theorem dX10_add_29 : decode cX10_add 29 = .ok (.ishr, 1) := by decide +kernel
theorem dX10_add_30 : decode cX10_add 30 = .ok (.i2b, 1) := by decide +kernel
theorem dX10_add_31 : decode cX10_add 31 = .ok (.bastore, 1) := by decide +kernel
theorem dX10_add_32 : decode cX10_add 32 = .ok (.aload_n 0, 1) := by decide +kernel
theorem dX10_add_33 : decode cX10_add 33 = .ok (.dup, 1) := by decide +kernel
theorem dX10_add_34 : decode cX10_add 34 = .ok (.getfield 29, 3) := by decide +kernel
theorem dX10_add_37 : decode cX10_add 37 = .ok (.iconst 1, 1) := by decide +kernel
theorem dX10_add_38 : decode cX10_add 38 = .ok (.iadd, 1) := by decide +kernel
theorem dX10_add_39 : decode cX10_add 39 = .ok (.putfield 29, 3) := by decide +kernel
theorem dX10_add_42 : decode cX10_add 42 = .ok (.iinc 2 (-8), 3) := by decide +kernel
theorem dX10_add_45 : decode cX10_add 45 = .ok (.goto (-42), 3) := by decide +kernel
theorem dX10_add_48 : decode cX10_add 48 = .ok (.return_, 1) := by decide +kernel
theorem dX12_come_0 : decode cX12_come 0 = .ok (.bipush 24, 2) := by decide +kernel
theorem dX12_come_2 : decode cX12_come 2 = .ok (.istore_n 2, 1) := by decide +kernel
theorem dX12_come_3 : decode cX12_come 3 = .ok (.iload_n 2, 1) := by decide +kernel
theorem dX12_come_4 : decode cX12_come 4 = .ok (.ifCond .lt 35, 3) := by decide +kernel
theorem dX12_come_7 : decode cX12_come 7 = .ok (.aload_n 0, 1) := by decide +kernel
theorem dX12_come_8 : decode cX12_come 8 = .ok (.getfield 7, 3) := by decide +kernel
theorem dX12_come_11 : decode cX12_come 11 = .ok (.aload_n 0, 1) := by decide +kernel
theorem dX12_come_12 : decode cX12_come 12 = .ok (.getfield 85, 3) := by decide +kernel
theorem dX12_come_15 : decode cX12_come 15 = .ok (.iload_n 1, 1) := by decide +kernel
theorem dX12_come_16 : decode cX12_come 16 = .ok (.iload_n 2, 1) := by decide +kernel
theorem dX12_come_17 : decode cX12_come 17 = .ok (.iushr, 1) := by decide +kernel
theorem dX12_come_18 : decode cX12_come 18 = .ok (.sipush 255, 3) := by decide +kernel
theorem dX12_come_21 : decode cX12_come 21 = .ok (.iand, 1) := by decide +kernel
theorem dX12_come_22 : decode cX12_come 22 = .ok (.iastore, 1) := by decide +kernel
theorem dX12_come_23 : decode cX12_come 23 = .ok (.aload_n 0, 1) := by decide +kernel
theorem dX12_come_24 : decode cX12_come 24 = .ok (.dup, 1) := by decide +kernel
theorem dX12_come_25 : decode cX12_come 25 = .ok (.getfield 85, 3) := by decide +kernel
theorem dX12_come_28 : decode cX12_come 28 = .ok (.iconst 1, 1) := by decide +kernel
theorem dX12_come_29 : decode cX12_come 29 = .ok (.iadd, 1) := by decide +kernel
theorem dX12_come_30 : decode cX12_come 30 = .ok (.putfield 85, 3) := by decide +kernel
theorem dX12_come_33 : decode cX12_come 33 = .ok (.iinc 2 (-8), 3) := by decide +kernel
theorem dX12_come_36 : decode cX12_come 36 = .ok (.goto (-33), 3) := by decide +kernel
theorem dX12_come_39 : decode cX12_come 39 = .ok (.return_, 1) := by decide +kernel
theorem dX12_isIn_0 : decode cX12_isIn 0 = .ok (.iload_n 0, 1) := by decide +kernel
theorem dX12_isIn_1 : decode cX12_isIn 1 = .ok (.iload_n 1, 1) := by decide +kernel
theorem dX12_isIn_2 : decode cX12_isIn 2 = .ok (.if_icmp .lt 12, 3) := by decide +kernel
theorem dX12_isIn_5 : decode cX12_isIn 5 = .ok (.iload_n 0, 1) := by decide +kernel
theorem dX12_isIn_6 : decode cX12_isIn 6 = .ok (.iload_n 2, 1) := by decide +kernel
theorem dX12_isIn_7 : decode cX12_isIn 7 = .ok (.if_icmp .gt 7, 3) := by decide +kernel
theorem dX12_isIn_10 : decode cX12_isIn 10 = .ok (.iconst 1, 1) := by decide +kernel
theorem dX12_isIn_11 : decode cX12_isIn 11 = .ok (.goto 4, 3) := by decide +kernel
theorem dX12_isIn_14 : decode cX12_isIn 14 = .ok (.iconst 0, 1) := by decide +kernel
theorem dX12_isIn_15 : decode cX12_isIn 15 = .ok (.ireturn, 1) := by decide +kernel
theorem dX8_hasDish_0 : decode cX8_hasDish 0 = .ok (.iload_n 1, 1) := by decide +kernel
theorem dX8_hasDish_1 : decode cX8_hasDish 1 = .ok (.ifCond .lt 15, 3) := by decide +kernel
theorem dX8_hasDish_4 : decode cX8_hasDish 4 = .ok (.iload_n 1, 1) := by decide +kernel
theorem dX8_hasDish_5 : decode cX8_hasDish 5 = .ok (.aload_n 0, 1) := by decide +kernel
theorem dX8_hasDish_6 : decode cX8_hasDish 6 = .ok (.getfield 32, 3) := by decide +kernel
theorem dX8_hasDish_9 : decode cX8_hasDish 9 = .ok (.if_icmp .ge 7, 3) := by decide +kernel
theorem dX8_hasDish_12 : decode cX8_hasDish 12 = .ok (.iconst 1, 1) := by decide +kernel
theorem dX8_hasDish_13 : decode cX8_hasDish 13 = .ok (.goto 4, 3) := by decide +kernel
theorem dX8_hasDish_16 : decode cX8_hasDish 16 = .ok (.iconst 0, 1) := by decide +kernel
theorem dX8_hasDish_17 : decode cX8_hasDish 17 = .ok (.ireturn, 1) := by decide +kernel
theorem dX8_hasPerson_0 : decode cX8_hasPerson 0 = .ok (.iload_n 1, 1) := by decide +kernel
theorem dX8_hasPerson_1 : decode cX8_hasPerson 1 = .ok (.ifCond .lt 15, 3) := by decide +kernel
theorem dX8_hasPerson_4 : decode cX8_hasPerson 4 = .ok (.iload_n 1, 1) := by decide +kernel
theorem dX8_hasPerson_5 : decode cX8_hasPerson 5 = .ok (.aload_n 0, 1) := by decide +kernel
theorem dX8_hasPerson_6 : decode cX8_hasPerson 6 = .ok (.getfield 28, 3) := by decide +kernel
theorem dX8_hasPerson_9 : decode cX8_hasPerson 9 = .ok (.if_icmp .ge 7, 3) := by decide +kernel
theorem dX8_hasPerson_12 : decode cX8_hasPerson 12 = .ok (.iconst 1, 1) := by decide +kernel
theorem dX8_hasPerson_13 : decode cX8_hasPerson 13 = .ok (.goto 4, 3) := by decide +kernel
theorem dX8_hasPerson_16 : decode cX8_hasPerson 16 = .ok (.iconst 0, 1) := by decide +kernel
theorem dX8_hasPerson_17 : decode cX8_hasPerson 17 = .ok (.ireturn, 1) := by decide +kernel
set_option maxRecDepth 100000 in
set_option maxHeartbeats 4000000 in
theorem c_Table_hasPerson {l : Launch} {D : va_G} {cy : Nat → ClassId} {L : List Nat} {κ ln : Nat → Nat} {R : Nat → Nat → Option Nat} {I : Nat → Nat → Int32} {J : Nat → Nat → Int64} {a : Nat} (hL : a ∈ L) (hk : κ a = 8) (x n : Int32) (h5 : I a 5 = n) : CtI l yX8_hasPerson cX8_hasPerson 2 (some .boolean) { frames := 0, cells := 0, slots := 0, locals := 0 } D cy L κ ln R I J [.ref a, .int x] (fun r I2 J2 => I = I2 ∧ J = J2 ∧ r = if 0 ≤ x ∧ x < n then 1 else 0) := by
  refine CtI.of (by decide +kernel) (Nat.le_of_ble_eq_true rfl) ?_
  intro p e s m below meth c B K
  have C := B.1
  refine g_lo (is := [0, 1]) (lo2 := [(0, .ref a), (1, .int x)]) rfl ?_
  refine g_iload_n C 1 dX8_hasPerson_0 rfl rfl ?_
  refine g_if_lt C (tgt := 16) dX8_hasPerson_1 (by decide) (fun h_1 => ?_) (fun h_1 => ?_)
  · skip
    refine g_iconst C (v := 0) dX8_hasPerson_16 (by decide) ?_
    exact g_zret (ty := .boolean) (r := 0) B K rfl (by decide) (⟨rfl, rfl, by first | exact b_in2 (by assumption) (by assumption) | exact b_in1 (by assumption) | exact b_in0 (by assumption)⟩) dX8_hasPerson_17
  · skip
    refine g_iload_n C 1 dX8_hasPerson_4 rfl rfl ?_
    refine g_aload_n C 0 dX8_hasPerson_5 rfl rfl ?_
    refine g_getI C K hL hk f_8_28 (v := n) (h5) dX8_hasPerson_6 ?_
    refine g_icmp_ge C (tgt := 16) dX8_hasPerson_9 (by decide) (fun h_2 => ?_) (fun h_2 => ?_)
    · skip
      refine g_iconst C (v := 0) dX8_hasPerson_16 (by decide) ?_
      exact g_zret (ty := .boolean) (r := 0) B K rfl (by decide) (⟨rfl, rfl, by first | exact b_in2 (by assumption) (by assumption) | exact b_in1 (by assumption) | exact b_in0 (by assumption)⟩) dX8_hasPerson_17
    · skip
      refine g_iconst C (v := 1) dX8_hasPerson_12 (by decide) ?_
      refine g_goto C (tgt := 17) dX8_hasPerson_13 (by decide) ?_
      exact g_zret (ty := .boolean) (r := 1) B K rfl (by decide) (⟨rfl, rfl, by first | exact b_in2 (by assumption) (by assumption) | exact b_in1 (by assumption) | exact b_in0 (by assumption)⟩) dX8_hasPerson_17
set_option maxRecDepth 100000 in
set_option maxHeartbeats 4000000 in
theorem c_Table_hasDish {l : Launch} {D : va_G} {cy : Nat → ClassId} {L : List Nat} {κ ln : Nat → Nat} {R : Nat → Nat → Option Nat} {I : Nat → Nat → Int32} {J : Nat → Nat → Int64} {a : Nat} (hL : a ∈ L) (hk : κ a = 8) (x n : Int32) (h5 : I a 6 = n) : CtI l yX8_hasDish cX8_hasDish 2 (some .boolean) { frames := 0, cells := 0, slots := 0, locals := 0 } D cy L κ ln R I J [.ref a, .int x] (fun r I2 J2 => I = I2 ∧ J = J2 ∧ r = if 0 ≤ x ∧ x < n then 1 else 0) := by
  refine CtI.of (by decide +kernel) (Nat.le_of_ble_eq_true rfl) ?_
  intro p e s m below meth c B K
  have C := B.1
  refine g_lo (is := [0, 1]) (lo2 := [(0, .ref a), (1, .int x)]) rfl ?_
  refine g_iload_n C 1 dX8_hasDish_0 rfl rfl ?_
  refine g_if_lt C (tgt := 16) dX8_hasDish_1 (by decide) (fun h_3 => ?_) (fun h_3 => ?_)
  · skip
    refine g_iconst C (v := 0) dX8_hasDish_16 (by decide) ?_
    exact g_zret (ty := .boolean) (r := 0) B K rfl (by decide) (⟨rfl, rfl, by first | exact b_in2 (by assumption) (by assumption) | exact b_in1 (by assumption) | exact b_in0 (by assumption)⟩) dX8_hasDish_17
  · skip
    refine g_iload_n C 1 dX8_hasDish_4 rfl rfl ?_
    refine g_aload_n C 0 dX8_hasDish_5 rfl rfl ?_
    refine g_getI C K hL hk f_8_32 (v := n) (h5) dX8_hasDish_6 ?_
    refine g_icmp_ge C (tgt := 16) dX8_hasDish_9 (by decide) (fun h_4 => ?_) (fun h_4 => ?_)
    · skip
      refine g_iconst C (v := 0) dX8_hasDish_16 (by decide) ?_
      exact g_zret (ty := .boolean) (r := 0) B K rfl (by decide) (⟨rfl, rfl, by first | exact b_in2 (by assumption) (by assumption) | exact b_in1 (by assumption) | exact b_in0 (by assumption)⟩) dX8_hasDish_17
    · skip
      refine g_iconst C (v := 1) dX8_hasDish_12 (by decide) ?_
      refine g_goto C (tgt := 17) dX8_hasDish_13 (by decide) ?_
      exact g_zret (ty := .boolean) (r := 1) B K rfl (by decide) (⟨rfl, rfl, by first | exact b_in2 (by assumption) (by assumption) | exact b_in1 (by assumption) | exact b_in0 (by assumption)⟩) dX8_hasDish_17
set_option maxRecDepth 100000 in
set_option maxHeartbeats 4000000 in
theorem c_Mod_isIn {l : Launch} {D : va_G} {cy : Nat → ClassId} {L : List Nat} {κ ln : Nat → Nat} {R : Nat → Nat → Option Nat} {I : Nat → Nat → Int32} {J : Nat → Nat → Int64} (x a b : Int32) : CtI l yX12_isIn cX12_isIn 3 (some .boolean) { frames := 0, cells := 0, slots := 0, locals := 0 } D cy L κ ln R I J [.int x, .int a, .int b] (fun r I2 J2 => I = I2 ∧ J = J2 ∧ r = if a ≤ x ∧ x ≤ b then 1 else 0) := by
  refine CtI.of (by decide +kernel) (Nat.le_of_ble_eq_true rfl) ?_
  intro p e s m below meth c B K
  have C := B.1
  refine g_lo (is := [0, 1, 2]) (lo2 := [(0, .int x), (1, .int a), (2, .int b)]) rfl ?_
  refine g_iload_n C 0 dX12_isIn_0 rfl rfl ?_
  refine g_iload_n C 1 dX12_isIn_1 rfl rfl ?_
  refine g_icmp_lt C (tgt := 14) dX12_isIn_2 (by decide) (fun h_5 => ?_) (fun h_5 => ?_)
  · skip
    refine g_iconst C (v := 0) dX12_isIn_14 (by decide) ?_
    exact g_zret (ty := .boolean) (r := 0) B K rfl (by decide) (⟨rfl, rfl, by first | exact b_is2 (by assumption) (by assumption) | exact b_is1 (by assumption) | exact b_is0 (by assumption)⟩) dX12_isIn_15
  · skip
    refine g_iload_n C 0 dX12_isIn_5 rfl rfl ?_
    refine g_iload_n C 2 dX12_isIn_6 rfl rfl ?_
    refine g_icmp_gt C (tgt := 14) dX12_isIn_7 (by decide) (fun h_6 => ?_) (fun h_6 => ?_)
    · skip
      refine g_iconst C (v := 0) dX12_isIn_14 (by decide) ?_
      exact g_zret (ty := .boolean) (r := 0) B K rfl (by decide) (⟨rfl, rfl, by first | exact b_is2 (by assumption) (by assumption) | exact b_is1 (by assumption) | exact b_is0 (by assumption)⟩) dX12_isIn_15
    · skip
      refine g_iconst C (v := 1) dX12_isIn_10 (by decide) ?_
      refine g_goto C (tgt := 15) dX12_isIn_11 (by decide) ?_
      exact g_zret (ty := .boolean) (r := 1) B K rfl (by decide) (⟨rfl, rfl, by first | exact b_is2 (by assumption) (by assumption) | exact b_is1 (by assumption) | exact b_is0 (by assumption)⟩) dX12_isIn_15
set_option maxRecDepth 100000 in
set_option maxHeartbeats 4000000 in
theorem c_Tape_add {l : Launch} {D : va_G} {cy : Nat → ClassId} {L : List Nat} {κ ln : Nat → Nat} {R : Nat → Nat → Option Nat} {I : Nat → Nat → Int32} {J : Nat → Nat → Int64} {ow : Nat → Nat × Nat} {t : Nat} (W9 : ∀ a ∈ L, Shp L κ ln R ow a) (hL : t ∈ L) (hk : κ t = 10) (n : Nat) (hn : n + 4 ≤ 940) (h5 : I t 5 = nI n) (x : Int32) : CtV l yX10_add cX10_add 3 none { frames := 0, cells := 0, slots := 0, locals := 0 } D cy L κ ln R I J [.ref t, .int x] (fun I2 J2 => J = J2 ∧ I2 t 5 = nI (n + 4)) := by
  refine CtV.of (by decide +kernel) (Nat.le_of_ble_eq_true rfl) ?_
  intro p e s m below meth c B K
  have C := B.1
  refine g_lo (is := [0, 1]) (lo2 := [(0, .ref t), (1, .int x)]) rfl ?_
  refine g_bipush C (v := 24) dX10_add_0 (by decide) ?_
  refine g_istore_n C dX10_add_2 rfl (by decide) (lo2 := [(2, .int 24), (0, .ref t), (1, .int x)]) rfl ?_
  refine g_iload_n C 0 dX10_add_3 rfl rfl ?_
  refine n_if_lt C (tgt := 48) (by decide) dX10_add_4 (by decide) ?_
  refine g_aload_n C 1 dX10_add_7 rfl rfl ?_
  refine g_getI C K hL hk f_10_29 (v := nI n) (h5) dX10_add_8 ?_
  refine g_aload_n C 1 dX10_add_11 rfl rfl ?_
  obtain ⟨b_7, hb_7, hb_7L, hb_7k, hb_7n, hb_7o⟩ := shp_a (W9 t hL) hk 0 13 940 rfl (by decide)
  refine g_getR C K hL hk f_10_9 hb_7 dX10_add_12 ?_
  refine g_alenB C K hb_7L hb_7k (v := 940) (by rw [hb_7n]; rfl) dX10_add_15 ?_
  refine n_icmp_ge C (tgt := 48) (ln_ge (n := n) (k := 940) (by omega) (by omega)) dX10_add_16 (by decide) ?_
  refine g_aload_n C 1 dX10_add_19 rfl rfl ?_
  refine g_getR C K hL hk f_10_9 hb_7 dX10_add_20 ?_
  refine g_aload_n C 1 dX10_add_23 rfl rfl ?_
  refine g_getI C K hL hk f_10_29 (v := nI n) (h5) dX10_add_24 ?_
  refine g_iload_n C 2 dX10_add_27 rfl rfl ?_
  refine g_iload_n C 0 dX10_add_28 rfl rfl ?_
  refine g_ishr C (v := (x) >>> ((24) &&& 31)) dX10_add_29 rfl ?_
  refine g_i2b C dX10_add_30 rfl ?_
  refine h_bast C K hb_7L hb_7k (n) (nI_clamp (by omega)) (nI_pos (by omega)) (by rw [hb_7n]; omega) dX10_add_31 (fun I_8 hI_8 => ?_)
  refine g_aload_n C 1 dX10_add_32 rfl rfl ?_
  refine g_dup C dX10_add_33 rfl ?_
  refine g_getI C K hL hk f_10_29 (v := nI n) (by rw [hI_8, u2_k (κ := κ) (by rw [hk, hb_7k]; decide)]; exact h5) dX10_add_34 ?_
  refine g_iconst C (v := 1) dX10_add_37 (by decide) ?_
  refine g_iadd C (v := nI (n + 1)) dX10_add_38 (nI_add (n) 1) ?_
  refine h_putI C K hL hk f_10_29 p_10_5 dX10_add_39 (fun I_9 hI_9 => ?_)
  refine g_iinc C dX10_add_42 (k := 0) (v := 16) rfl (by decide) (by decide) (lo2 := [(2, .int 16), (0, .ref t), (1, .int x)]) rfl ?_
  refine g_goto C (tgt := 3) dX10_add_45 (by decide) ?_
  refine g_iload_n C 0 dX10_add_3 rfl rfl ?_
  refine n_if_lt C (tgt := 48) (by decide) dX10_add_4 (by decide) ?_
  refine g_aload_n C 1 dX10_add_7 rfl rfl ?_
  refine g_getI C K hL hk f_10_29 (v := nI (n + 1)) (by rw [hI_9]; exact u2_s) dX10_add_8 ?_
  refine g_aload_n C 1 dX10_add_11 rfl rfl ?_
  refine g_getR C K hL hk f_10_9 hb_7 dX10_add_12 ?_
  refine g_alenB C K hb_7L hb_7k (v := 940) (by rw [hb_7n]; rfl) dX10_add_15 ?_
  refine n_icmp_ge C (tgt := 48) (ln_ge (n := n + 1) (k := 940) (by omega) (by omega)) dX10_add_16 (by decide) ?_
  refine g_aload_n C 1 dX10_add_19 rfl rfl ?_
  refine g_getR C K hL hk f_10_9 hb_7 dX10_add_20 ?_
  refine g_aload_n C 1 dX10_add_23 rfl rfl ?_
  refine g_getI C K hL hk f_10_29 (v := nI (n + 1)) (by rw [hI_9]; exact u2_s) dX10_add_24 ?_
  refine g_iload_n C 2 dX10_add_27 rfl rfl ?_
  refine g_iload_n C 0 dX10_add_28 rfl rfl ?_
  refine g_ishr C (v := (x) >>> ((16) &&& 31)) dX10_add_29 rfl ?_
  refine g_i2b C dX10_add_30 rfl ?_
  refine h_bast C K hb_7L hb_7k (n + 1) (nI_clamp (by omega)) (nI_pos (by omega)) (by rw [hb_7n]; omega) dX10_add_31 (fun I_10 hI_10 => ?_)
  refine g_aload_n C 1 dX10_add_32 rfl rfl ?_
  refine g_dup C dX10_add_33 rfl ?_
  refine g_getI C K hL hk f_10_29 (v := nI (n + 1)) (by rw [hI_10, u2_k (κ := κ) (by rw [hk, hb_7k]; decide), hI_9]; exact u2_s) dX10_add_34 ?_
  refine g_iconst C (v := 1) dX10_add_37 (by decide) ?_
  refine g_iadd C (v := nI (n + 1 + 1)) dX10_add_38 (nI_add (n + 1) 1) ?_
  refine h_putI C K hL hk f_10_29 p_10_5 dX10_add_39 (fun I_11 hI_11 => ?_)
  refine g_iinc C dX10_add_42 (k := 0) (v := 8) rfl (by decide) (by decide) (lo2 := [(2, .int 8), (0, .ref t), (1, .int x)]) rfl ?_
  refine g_goto C (tgt := 3) dX10_add_45 (by decide) ?_
  refine g_iload_n C 0 dX10_add_3 rfl rfl ?_
  refine n_if_lt C (tgt := 48) (by decide) dX10_add_4 (by decide) ?_
  refine g_aload_n C 1 dX10_add_7 rfl rfl ?_
  refine g_getI C K hL hk f_10_29 (v := nI (n + 1 + 1)) (by rw [hI_11]; exact u2_s) dX10_add_8 ?_
  refine g_aload_n C 1 dX10_add_11 rfl rfl ?_
  refine g_getR C K hL hk f_10_9 hb_7 dX10_add_12 ?_
  refine g_alenB C K hb_7L hb_7k (v := 940) (by rw [hb_7n]; rfl) dX10_add_15 ?_
  refine n_icmp_ge C (tgt := 48) (ln_ge (n := n + 1 + 1) (k := 940) (by omega) (by omega)) dX10_add_16 (by decide) ?_
  refine g_aload_n C 1 dX10_add_19 rfl rfl ?_
  refine g_getR C K hL hk f_10_9 hb_7 dX10_add_20 ?_
  refine g_aload_n C 1 dX10_add_23 rfl rfl ?_
  refine g_getI C K hL hk f_10_29 (v := nI (n + 1 + 1)) (by rw [hI_11]; exact u2_s) dX10_add_24 ?_
  refine g_iload_n C 2 dX10_add_27 rfl rfl ?_
  refine g_iload_n C 0 dX10_add_28 rfl rfl ?_
  refine g_ishr C (v := (x) >>> ((8) &&& 31)) dX10_add_29 rfl ?_
  refine g_i2b C dX10_add_30 rfl ?_
  refine h_bast C K hb_7L hb_7k (n + 1 + 1) (nI_clamp (by omega)) (nI_pos (by omega)) (by rw [hb_7n]; omega) dX10_add_31 (fun I_12 hI_12 => ?_)
  refine g_aload_n C 1 dX10_add_32 rfl rfl ?_
  refine g_dup C dX10_add_33 rfl ?_
  refine g_getI C K hL hk f_10_29 (v := nI (n + 1 + 1)) (by rw [hI_12, u2_k (κ := κ) (by rw [hk, hb_7k]; decide), hI_11]; exact u2_s) dX10_add_34 ?_
  refine g_iconst C (v := 1) dX10_add_37 (by decide) ?_
  refine g_iadd C (v := nI (n + 1 + 1 + 1)) dX10_add_38 (nI_add (n + 1 + 1) 1) ?_
  refine h_putI C K hL hk f_10_29 p_10_5 dX10_add_39 (fun I_13 hI_13 => ?_)
  refine g_iinc C dX10_add_42 (k := 0) (v := 0) rfl (by decide) (by decide) (lo2 := [(2, .int 0), (0, .ref t), (1, .int x)]) rfl ?_
  refine g_goto C (tgt := 3) dX10_add_45 (by decide) ?_
  refine g_iload_n C 0 dX10_add_3 rfl rfl ?_
  refine n_if_lt C (tgt := 48) (by decide) dX10_add_4 (by decide) ?_
  refine g_aload_n C 1 dX10_add_7 rfl rfl ?_
  refine g_getI C K hL hk f_10_29 (v := nI (n + 1 + 1 + 1)) (by rw [hI_13]; exact u2_s) dX10_add_8 ?_
  refine g_aload_n C 1 dX10_add_11 rfl rfl ?_
  refine g_getR C K hL hk f_10_9 hb_7 dX10_add_12 ?_
  refine g_alenB C K hb_7L hb_7k (v := 940) (by rw [hb_7n]; rfl) dX10_add_15 ?_
  refine n_icmp_ge C (tgt := 48) (ln_ge (n := n + 1 + 1 + 1) (k := 940) (by omega) (by omega)) dX10_add_16 (by decide) ?_
  refine g_aload_n C 1 dX10_add_19 rfl rfl ?_
  refine g_getR C K hL hk f_10_9 hb_7 dX10_add_20 ?_
  refine g_aload_n C 1 dX10_add_23 rfl rfl ?_
  refine g_getI C K hL hk f_10_29 (v := nI (n + 1 + 1 + 1)) (by rw [hI_13]; exact u2_s) dX10_add_24 ?_
  refine g_iload_n C 2 dX10_add_27 rfl rfl ?_
  refine g_iload_n C 0 dX10_add_28 rfl rfl ?_
  refine g_ishr C (v := (x) >>> ((0) &&& 31)) dX10_add_29 rfl ?_
  refine g_i2b C dX10_add_30 rfl ?_
  refine h_bast C K hb_7L hb_7k (n + 1 + 1 + 1) (nI_clamp (by omega)) (nI_pos (by omega)) (by rw [hb_7n]; omega) dX10_add_31 (fun I_14 hI_14 => ?_)
  refine g_aload_n C 1 dX10_add_32 rfl rfl ?_
  refine g_dup C dX10_add_33 rfl ?_
  refine g_getI C K hL hk f_10_29 (v := nI (n + 1 + 1 + 1)) (by rw [hI_14, u2_k (κ := κ) (by rw [hk, hb_7k]; decide), hI_13]; exact u2_s) dX10_add_34 ?_
  refine g_iconst C (v := 1) dX10_add_37 (by decide) ?_
  refine g_iadd C (v := nI (n + 1 + 1 + 1 + 1)) dX10_add_38 (nI_add (n + 1 + 1 + 1) 1) ?_
  refine h_putI C K hL hk f_10_29 p_10_5 dX10_add_39 (fun I_15 hI_15 => ?_)
  refine g_iinc C dX10_add_42 (k := 0) (v := (-8)) rfl (by decide) (by decide) (lo2 := [(2, .int (-8)), (0, .ref t), (1, .int x)]) rfl ?_
  refine g_goto C (tgt := 3) dX10_add_45 (by decide) ?_
  refine g_iload_n C 0 dX10_add_3 rfl rfl ?_
  refine t_if_lt C (tgt := 48) (by decide) dX10_add_4 (by decide) ?_
  exact g_vret B K rfl (⟨rfl, by rw [hI_15]; exact u2_s⟩) dX10_add_48
set_option maxRecDepth 100000 in
set_option maxHeartbeats 4000000 in
theorem c_Mod_come {l : Launch} {D : va_G} {cy : Nat → ClassId} {L : List Nat} {κ ln : Nat → Nat} {R : Nat → Nat → Option Nat} {I : Nat → Nat → Int32} {J : Nat → Nat → Int64} {ow : Nat → Nat × Nat} {t : Nat} (W9 : ∀ a ∈ L, Shp L κ ln R ow a) (hL : t ∈ L) (hk : κ t = 12) (n : Nat) (hn : n + 4 ≤ 940) (h5 : I t 2 = nI n) (x : Int32) : CtV l yX12_come cX12_come 3 none { frames := 0, cells := 0, slots := 0, locals := 0 } D cy L κ ln R I J [.ref t, .int x] (fun I2 J2 => J = J2 ∧ I2 t 2 = nI (n + 4)) := by
  refine CtV.of (by decide +kernel) (Nat.le_of_ble_eq_true rfl) ?_
  intro p e s m below meth c B K
  have C := B.1
  refine g_lo (is := [0, 1]) (lo2 := [(0, .ref t), (1, .int x)]) rfl ?_
  refine g_bipush C (v := 24) dX12_come_0 (by decide) ?_
  refine g_istore_n C dX12_come_2 rfl (by decide) (lo2 := [(2, .int 24), (0, .ref t), (1, .int x)]) rfl ?_
  refine g_iload_n C 0 dX12_come_3 rfl rfl ?_
  refine n_if_lt C (tgt := 39) (by decide) dX12_come_4 (by decide) ?_
  refine g_aload_n C 1 dX12_come_7 rfl rfl ?_
  obtain ⟨b_16, hb_16, hb_16L, hb_16k, hb_16n, hb_16o⟩ := shp_a (W9 t hL) hk 1 14 940 rfl (by decide)
  refine g_getR C K hL hk f_12_7 hb_16 dX12_come_8 ?_
  refine g_aload_n C 1 dX12_come_11 rfl rfl ?_
  refine g_getI C K hL hk f_12_85 (v := nI n) (h5) dX12_come_12 ?_
  refine g_iload_n C 2 dX12_come_15 rfl rfl ?_
  refine g_iload_n C 0 dX12_come_16 rfl rfl ?_
  obtain ⟨x_17, hx_17⟩ : ∃ z : Int32, (Int32.toUInt32 (x) >>> (Int32.toUInt32 (24) &&& Int32.toUInt32 31)).toInt32 = z := ⟨_, rfl⟩
  refine g_iushr C dX12_come_17 hx_17 ?_
  refine g_sipush C (v := 255) dX12_come_18 (by decide) ?_
  refine g_iand C (v := (x_17) &&& (255)) dX12_come_21 rfl ?_
  refine h_iast C K hb_16L hb_16k (n) (nI_clamp (by omega)) (nI_pos (by omega)) (by rw [hb_16n]; omega) dX12_come_22 (fun I_18 hI_18 => ?_)
  refine g_aload_n C 1 dX12_come_23 rfl rfl ?_
  refine g_dup C dX12_come_24 rfl ?_
  refine g_getI C K hL hk f_12_85 (v := nI n) (by rw [hI_18, u2_k (κ := κ) (by rw [hk, hb_16k]; decide)]; exact h5) dX12_come_25 ?_
  refine g_iconst C (v := 1) dX12_come_28 (by decide) ?_
  refine g_iadd C (v := nI (n + 1)) dX12_come_29 (nI_add (n) 1) ?_
  refine h_putI C K hL hk f_12_85 p_12_2 dX12_come_30 (fun I_19 hI_19 => ?_)
  refine g_iinc C dX12_come_33 (k := 0) (v := 16) rfl (by decide) (by decide) (lo2 := [(2, .int 16), (0, .ref t), (1, .int x)]) rfl ?_
  refine g_goto C (tgt := 3) dX12_come_36 (by decide) ?_
  refine g_iload_n C 0 dX12_come_3 rfl rfl ?_
  refine n_if_lt C (tgt := 39) (by decide) dX12_come_4 (by decide) ?_
  refine g_aload_n C 1 dX12_come_7 rfl rfl ?_
  refine g_getR C K hL hk f_12_7 hb_16 dX12_come_8 ?_
  refine g_aload_n C 1 dX12_come_11 rfl rfl ?_
  refine g_getI C K hL hk f_12_85 (v := nI (n + 1)) (by rw [hI_19]; exact u2_s) dX12_come_12 ?_
  refine g_iload_n C 2 dX12_come_15 rfl rfl ?_
  refine g_iload_n C 0 dX12_come_16 rfl rfl ?_
  obtain ⟨x_20, hx_20⟩ : ∃ z : Int32, (Int32.toUInt32 (x) >>> (Int32.toUInt32 (16) &&& Int32.toUInt32 31)).toInt32 = z := ⟨_, rfl⟩
  refine g_iushr C dX12_come_17 hx_20 ?_
  refine g_sipush C (v := 255) dX12_come_18 (by decide) ?_
  refine g_iand C (v := (x_20) &&& (255)) dX12_come_21 rfl ?_
  refine h_iast C K hb_16L hb_16k (n + 1) (nI_clamp (by omega)) (nI_pos (by omega)) (by rw [hb_16n]; omega) dX12_come_22 (fun I_21 hI_21 => ?_)
  refine g_aload_n C 1 dX12_come_23 rfl rfl ?_
  refine g_dup C dX12_come_24 rfl ?_
  refine g_getI C K hL hk f_12_85 (v := nI (n + 1)) (by rw [hI_21, u2_k (κ := κ) (by rw [hk, hb_16k]; decide), hI_19]; exact u2_s) dX12_come_25 ?_
  refine g_iconst C (v := 1) dX12_come_28 (by decide) ?_
  refine g_iadd C (v := nI (n + 1 + 1)) dX12_come_29 (nI_add (n + 1) 1) ?_
  refine h_putI C K hL hk f_12_85 p_12_2 dX12_come_30 (fun I_22 hI_22 => ?_)
  refine g_iinc C dX12_come_33 (k := 0) (v := 8) rfl (by decide) (by decide) (lo2 := [(2, .int 8), (0, .ref t), (1, .int x)]) rfl ?_
  refine g_goto C (tgt := 3) dX12_come_36 (by decide) ?_
  refine g_iload_n C 0 dX12_come_3 rfl rfl ?_
  refine n_if_lt C (tgt := 39) (by decide) dX12_come_4 (by decide) ?_
  refine g_aload_n C 1 dX12_come_7 rfl rfl ?_
  refine g_getR C K hL hk f_12_7 hb_16 dX12_come_8 ?_
  refine g_aload_n C 1 dX12_come_11 rfl rfl ?_
  refine g_getI C K hL hk f_12_85 (v := nI (n + 1 + 1)) (by rw [hI_22]; exact u2_s) dX12_come_12 ?_
  refine g_iload_n C 2 dX12_come_15 rfl rfl ?_
  refine g_iload_n C 0 dX12_come_16 rfl rfl ?_
  obtain ⟨x_23, hx_23⟩ : ∃ z : Int32, (Int32.toUInt32 (x) >>> (Int32.toUInt32 (8) &&& Int32.toUInt32 31)).toInt32 = z := ⟨_, rfl⟩
  refine g_iushr C dX12_come_17 hx_23 ?_
  refine g_sipush C (v := 255) dX12_come_18 (by decide) ?_
  refine g_iand C (v := (x_23) &&& (255)) dX12_come_21 rfl ?_
  refine h_iast C K hb_16L hb_16k (n + 1 + 1) (nI_clamp (by omega)) (nI_pos (by omega)) (by rw [hb_16n]; omega) dX12_come_22 (fun I_24 hI_24 => ?_)
  refine g_aload_n C 1 dX12_come_23 rfl rfl ?_
  refine g_dup C dX12_come_24 rfl ?_
  refine g_getI C K hL hk f_12_85 (v := nI (n + 1 + 1)) (by rw [hI_24, u2_k (κ := κ) (by rw [hk, hb_16k]; decide), hI_22]; exact u2_s) dX12_come_25 ?_
  refine g_iconst C (v := 1) dX12_come_28 (by decide) ?_
  refine g_iadd C (v := nI (n + 1 + 1 + 1)) dX12_come_29 (nI_add (n + 1 + 1) 1) ?_
  refine h_putI C K hL hk f_12_85 p_12_2 dX12_come_30 (fun I_25 hI_25 => ?_)
  refine g_iinc C dX12_come_33 (k := 0) (v := 0) rfl (by decide) (by decide) (lo2 := [(2, .int 0), (0, .ref t), (1, .int x)]) rfl ?_
  refine g_goto C (tgt := 3) dX12_come_36 (by decide) ?_
  refine g_iload_n C 0 dX12_come_3 rfl rfl ?_
  refine n_if_lt C (tgt := 39) (by decide) dX12_come_4 (by decide) ?_
  refine g_aload_n C 1 dX12_come_7 rfl rfl ?_
  refine g_getR C K hL hk f_12_7 hb_16 dX12_come_8 ?_
  refine g_aload_n C 1 dX12_come_11 rfl rfl ?_
  refine g_getI C K hL hk f_12_85 (v := nI (n + 1 + 1 + 1)) (by rw [hI_25]; exact u2_s) dX12_come_12 ?_
  refine g_iload_n C 2 dX12_come_15 rfl rfl ?_
  refine g_iload_n C 0 dX12_come_16 rfl rfl ?_
  obtain ⟨x_26, hx_26⟩ : ∃ z : Int32, (Int32.toUInt32 (x) >>> (Int32.toUInt32 (0) &&& Int32.toUInt32 31)).toInt32 = z := ⟨_, rfl⟩
  refine g_iushr C dX12_come_17 hx_26 ?_
  refine g_sipush C (v := 255) dX12_come_18 (by decide) ?_
  refine g_iand C (v := (x_26) &&& (255)) dX12_come_21 rfl ?_
  refine h_iast C K hb_16L hb_16k (n + 1 + 1 + 1) (nI_clamp (by omega)) (nI_pos (by omega)) (by rw [hb_16n]; omega) dX12_come_22 (fun I_27 hI_27 => ?_)
  refine g_aload_n C 1 dX12_come_23 rfl rfl ?_
  refine g_dup C dX12_come_24 rfl ?_
  refine g_getI C K hL hk f_12_85 (v := nI (n + 1 + 1 + 1)) (by rw [hI_27, u2_k (κ := κ) (by rw [hk, hb_16k]; decide), hI_25]; exact u2_s) dX12_come_25 ?_
  refine g_iconst C (v := 1) dX12_come_28 (by decide) ?_
  refine g_iadd C (v := nI (n + 1 + 1 + 1 + 1)) dX12_come_29 (nI_add (n + 1 + 1 + 1) 1) ?_
  refine h_putI C K hL hk f_12_85 p_12_2 dX12_come_30 (fun I_28 hI_28 => ?_)
  refine g_iinc C dX12_come_33 (k := 0) (v := (-8)) rfl (by decide) (by decide) (lo2 := [(2, .int (-8)), (0, .ref t), (1, .int x)]) rfl ?_
  refine g_goto C (tgt := 3) dX12_come_36 (by decide) ?_
  refine g_iload_n C 0 dX12_come_3 rfl rfl ?_
  refine t_if_lt C (tgt := 39) (by decide) dX12_come_4 (by decide) ?_
  exact g_vret B K rfl (⟨rfl, by rw [hI_28]; exact u2_s⟩) dX12_come_39
