theorem dX11_image_0 : decode cX11_image 0 = .ok (.iload_n 1, 1) := by decide +kernel
theorem dX11_image_1 : decode cX11_image 1 = .ok (.ifCond .lt 8, 3) := by decide +kernel
theorem dX11_image_4 : decode cX11_image 4 = .ok (.iload_n 1, 1) := by decide +kernel
theorem dX11_image_5 : decode cX11_image 5 = .ok (.iconst 2, 1) := by decide +kernel
theorem dX11_image_6 : decode cX11_image 6 = .ok (.if_icmp .lt 5, 3) := by decide +kernel
theorem dX11_image_9 : decode cX11_image 9 = .ok (.iconst 0, 1) := by decide +kernel
theorem dX11_image_10 : decode cX11_image 10 = .ok (.ireturn, 1) := by decide +kernel
theorem dX11_image_11 : decode cX11_image 11 = .ok (.aload_n 0, 1) := by decide +kernel
theorem dX11_image_12 : decode cX11_image 12 = .ok (.getfield 89, 3) := by decide +kernel
theorem dX11_image_15 : decode cX11_image 15 = .ok (.iload_n 1, 1) := by decide +kernel
theorem dX11_image_16 : decode cX11_image 16 = .ok (.aaload, 1) := by decide +kernel
theorem dX11_image_17 : decode cX11_image 17 = .ok (.aload_n 0, 1) := by decide +kernel
theorem dX11_image_18 : decode cX11_image 18 = .ok (.getfield 19, 3) := by decide +kernel
theorem dX11_image_21 : decode cX11_image 21 = .ok (.aload_n 0, 1) := by decide +kernel
theorem dX11_image_22 : decode cX11_image 22 = .ok (.getfield 28, 3) := by decide +kernel
theorem dX11_image_25 : decode cX11_image 25 = .ok (.aload_n 0, 1) := by decide +kernel
theorem dX11_image_26 : decode cX11_image 26 = .ok (.getfield 59, 3) := by decide +kernel
theorem dX11_image_29 : decode cX11_image 29 = .ok (.invokevirtual 379, 3) := by decide +kernel
theorem dX11_image_32 : decode cX11_image 32 = .ok (.iconst 1, 1) := by decide +kernel
theorem dX11_image_33 : decode cX11_image 33 = .ok (.ireturn, 1) := by decide +kernel
theorem dX11_restore_0 : decode cX11_restore 0 = .ok (.iload_n 1, 1) := by decide +kernel
theorem dX11_restore_1 : decode cX11_restore 1 = .ok (.ifCond .lt 20, 3) := by decide +kernel
theorem dX11_restore_4 : decode cX11_restore 4 = .ok (.iload_n 1, 1) := by decide +kernel
theorem dX11_restore_5 : decode cX11_restore 5 = .ok (.iconst 2, 1) := by decide +kernel
theorem dX11_restore_6 : decode cX11_restore 6 = .ok (.if_icmp .ge 15, 3) := by decide +kernel
theorem dX11_restore_9 : decode cX11_restore 9 = .ok (.aload_n 0, 1) := by decide +kernel
theorem dX11_restore_10 : decode cX11_restore 10 = .ok (.getfield 89, 3) := by decide +kernel
theorem dX11_restore_13 : decode cX11_restore 13 = .ok (.iload_n 1, 1) := by decide +kernel
theorem dX11_restore_14 : decode cX11_restore 14 = .ok (.aaload, 1) := by decide +kernel
theorem dX11_restore_15 : decode cX11_restore 15 = .ok (.getfield 383, 3) := by decide +kernel
theorem dX11_restore_18 : decode cX11_restore 18 = .ok (.ifCond .ne 5, 3) := by decide +kernel
theorem dX11_restore_21 : decode cX11_restore 21 = .ok (.iconst 0, 1) := by decide +kernel
theorem dX11_restore_22 : decode cX11_restore 22 = .ok (.ireturn, 1) := by decide +kernel
theorem dX11_restore_23 : decode cX11_restore 23 = .ok (.aload_n 0, 1) := by decide +kernel
theorem dX11_restore_24 : decode cX11_restore 24 = .ok (.getfield 19, 3) := by decide +kernel
theorem dX11_restore_27 : decode cX11_restore 27 = .ok (.aload_n 0, 1) := by decide +kernel
theorem dX11_restore_28 : decode cX11_restore 28 = .ok (.getfield 89, 3) := by decide +kernel
theorem dX11_restore_31 : decode cX11_restore 31 = .ok (.iload_n 1, 1) := by decide +kernel
theorem dX11_restore_32 : decode cX11_restore 32 = .ok (.aaload, 1) := by decide +kernel
theorem dX11_restore_33 : decode cX11_restore 33 = .ok (.getfield 386, 3) := by decide +kernel
theorem dX11_restore_36 : decode cX11_restore 36 = .ok (.invokevirtual 120, 3) := by decide +kernel
theorem dX11_restore_39 : decode cX11_restore 39 = .ok (.aload_n 0, 1) := by decide +kernel
theorem dX11_restore_40 : decode cX11_restore 40 = .ok (.getfield 28, 3) := by decide +kernel
theorem dX11_restore_43 : decode cX11_restore 43 = .ok (.aload_n 0, 1) := by decide +kernel
theorem dX11_restore_44 : decode cX11_restore 44 = .ok (.getfield 89, 3) := by decide +kernel
theorem dX11_restore_47 : decode cX11_restore 47 = .ok (.iload_n 1, 1) := by decide +kernel
theorem dX11_restore_48 : decode cX11_restore 48 = .ok (.aaload, 1) := by decide +kernel
theorem dX11_restore_49 : decode cX11_restore 49 = .ok (.getfield 387, 3) := by decide +kernel
theorem dX11_restore_52 : decode cX11_restore 52 = .ok (.invokevirtual 126, 3) := by decide +kernel
theorem dX11_restore_55 : decode cX11_restore 55 = .ok (.aload_n 0, 1) := by decide +kernel
theorem dX11_restore_56 : decode cX11_restore 56 = .ok (.getfield 59, 3) := by decide +kernel
theorem dX11_restore_59 : decode cX11_restore 59 = .ok (.aload_n 0, 1) := by decide +kernel
theorem dX11_restore_60 : decode cX11_restore 60 = .ok (.getfield 89, 3) := by decide +kernel
theorem dX11_restore_63 : decode cX11_restore 63 = .ok (.iload_n 1, 1) := by decide +kernel
theorem dX11_restore_64 : decode cX11_restore 64 = .ok (.aaload, 1) := by decide +kernel
theorem dX11_restore_65 : decode cX11_restore 65 = .ok (.getfield 388, 3) := by decide +kernel
theorem dX11_restore_68 : decode cX11_restore 68 = .ok (.invokevirtual 365, 3) := by decide +kernel
theorem dX11_restore_71 : decode cX11_restore 71 = .ok (.aload_n 0, 1) := by decide +kernel
theorem dX11_restore_72 : decode cX11_restore 72 = .ok (.getfield 38, 3) := by decide +kernel
theorem dX11_restore_75 : decode cX11_restore 75 = .ok (.invokevirtual 132, 3) := by decide +kernel
theorem dX11_restore_78 : decode cX11_restore 78 = .ok (.iconst 1, 1) := by decide +kernel
theorem dX11_restore_79 : decode cX11_restore 79 = .ok (.ireturn, 1) := by decide +kernel
theorem dX3_keep_0 : decode cX3_keep 0 = .ok (.aload_n 0, 1) := by decide +kernel
theorem dX3_keep_1 : decode cX3_keep 1 = .ok (.getfield 10, 3) := by decide +kernel
theorem dX3_keep_4 : decode cX3_keep 4 = .ok (.aload_n 1, 1) := by decide +kernel
theorem dX3_keep_5 : decode cX3_keep 5 = .ok (.invokevirtual 36, 3) := by decide +kernel
theorem dX3_keep_8 : decode cX3_keep 8 = .ok (.aload_n 0, 1) := by decide +kernel
theorem dX3_keep_9 : decode cX3_keep 9 = .ok (.getfield 21, 3) := by decide +kernel
theorem dX3_keep_12 : decode cX3_keep 12 = .ok (.aload_n 2, 1) := by decide +kernel
theorem dX3_keep_13 : decode cX3_keep 13 = .ok (.invokevirtual 39, 3) := by decide +kernel
theorem dX3_keep_16 : decode cX3_keep 16 = .ok (.aload_n 0, 1) := by decide +kernel
theorem dX3_keep_17 : decode cX3_keep 17 = .ok (.getfield 28, 3) := by decide +kernel
theorem dX3_keep_20 : decode cX3_keep 20 = .ok (.aload_n 3, 1) := by decide +kernel
theorem dX3_keep_21 : decode cX3_keep 21 = .ok (.invokevirtual 42, 3) := by decide +kernel
theorem dX3_keep_24 : decode cX3_keep 24 = .ok (.aload_n 0, 1) := by decide +kernel
theorem dX3_keep_25 : decode cX3_keep 25 = .ok (.iconst 1, 1) := by decide +kernel
theorem dX3_keep_26 : decode cX3_keep 26 = .ok (.putfield 32, 3) := by decide +kernel
theorem dX3_keep_29 : decode cX3_keep 29 = .ok (.return_, 1) := by decide +kernel
theorem dX7_compares_0 : decode cX7_compares 0 = .ok (.aload_n 0, 1) := by decide +kernel
theorem dX7_compares_1 : decode cX7_compares 1 = .ok (.getfield 15, 3) := by decide +kernel
theorem dX7_compares_4 : decode cX7_compares 4 = .ok (.iload_n 2, 1) := by decide +kernel
theorem dX7_compares_5 : decode cX7_compares 5 = .ok (.iaload, 1) := by decide +kernel
theorem dX7_compares_6 : decode cX7_compares 6 = .ok (.lookupswitch 58 #[(60, 26), (62, 42)], 26) := by decide +kernel
theorem dX7_compares_32 : decode cX7_compares 32 = .ok (.iload_n 1, 1) := by decide +kernel
theorem dX7_compares_33 : decode cX7_compares 33 = .ok (.aload_n 0, 1) := by decide +kernel
theorem dX7_compares_34 : decode cX7_compares 34 = .ok (.getfield 18, 3) := by decide +kernel
theorem dX7_compares_37 : decode cX7_compares 37 = .ok (.iload_n 2, 1) := by decide +kernel
theorem dX7_compares_38 : decode cX7_compares 38 = .ok (.iaload, 1) := by decide +kernel
theorem dX7_compares_39 : decode cX7_compares 39 = .ok (.if_icmp .ge 7, 3) := by decide +kernel
theorem dX7_compares_42 : decode cX7_compares 42 = .ok (.iconst 1, 1) := by decide +kernel
theorem dX7_compares_43 : decode cX7_compares 43 = .ok (.goto 4, 3) := by decide +kernel
theorem dX7_compares_46 : decode cX7_compares 46 = .ok (.iconst 0, 1) := by decide +kernel
theorem dX7_compares_47 : decode cX7_compares 47 = .ok (.ireturn, 1) := by decide +kernel
theorem dX7_compares_48 : decode cX7_compares 48 = .ok (.iload_n 1, 1) := by decide +kernel
theorem dX7_compares_49 : decode cX7_compares 49 = .ok (.aload_n 0, 1) := by decide +kernel
theorem dX7_compares_50 : decode cX7_compares 50 = .ok (.getfield 18, 3) := by decide +kernel
theorem dX7_compares_53 : decode cX7_compares 53 = .ok (.iload_n 2, 1) := by decide +kernel
theorem dX7_compares_54 : decode cX7_compares 54 = .ok (.iaload, 1) := by decide +kernel
theorem dX7_compares_55 : decode cX7_compares 55 = .ok (.if_icmp .le 7, 3) := by decide +kernel
theorem dX7_compares_58 : decode cX7_compares 58 = .ok (.iconst 1, 1) := by decide +kernel
theorem dX7_compares_59 : decode cX7_compares 59 = .ok (.goto 4, 3) := by decide +kernel
theorem dX7_compares_62 : decode cX7_compares 62 = .ok (.iconst 0, 1) := by decide +kernel
theorem dX7_compares_63 : decode cX7_compares 63 = .ok (.ireturn, 1) := by decide +kernel
theorem dX7_compares_64 : decode cX7_compares 64 = .ok (.iload_n 1, 1) := by decide +kernel
theorem dX7_compares_65 : decode cX7_compares 65 = .ok (.aload_n 0, 1) := by decide +kernel
theorem dX7_compares_66 : decode cX7_compares 66 = .ok (.getfield 18, 3) := by decide +kernel
theorem dX7_compares_69 : decode cX7_compares 69 = .ok (.iload_n 2, 1) := by decide +kernel
theorem dX7_compares_70 : decode cX7_compares 70 = .ok (.iaload, 1) := by decide +kernel
theorem dX7_compares_71 : decode cX7_compares 71 = .ok (.if_icmp .ne 7, 3) := by decide +kernel
theorem dX7_compares_74 : decode cX7_compares 74 = .ok (.iconst 1, 1) := by decide +kernel
theorem dX7_compares_75 : decode cX7_compares 75 = .ok (.goto 4, 3) := by decide +kernel
theorem dX7_compares_78 : decode cX7_compares 78 = .ok (.iconst 0, 1) := by decide +kernel
theorem dX7_compares_79 : decode cX7_compares 79 = .ok (.ireturn, 1) := by decide +kernel
set_option maxRecDepth 100000 in
set_option maxHeartbeats 8000000 in
theorem c_X7_compares {l : Launch} {D : va_G} {cy : Nat → ClassId} {L : List Nat} {κ ln : Nat → Nat} {R : Nat → Nat → Option Nat} {I : Nat → Nat → Int32} {J : Nat → Nat → Int64} {ow : Nat → Nat × Nat} (W9 : ∀ a ∈ L, Shp L κ ln R ow a) {x : Nat} (hLx : x ∈ L) (hkx : κ x = 7) (a0 : Int32) (a1 : Int32) (ra1 : Rg 0 39 a1) (hU : Uv L κ ow I) : CtI l yX7_compares cX7_compares 3 (some .boolean) { frames := 0, cells := 0, slots := 0, locals := 0 } D cy L κ ln R I J [.ref x, .int a0, .int a1] (fun r I2 J2 => I = I2 ∧ J = J2 ∧ Rg 0 1 r) := by
  refine CtI.of (by decide +kernel) (Nat.le_of_ble_eq_true rfl) ?_
  intro p e s m below meth c B K
  have C := B.1
  obtain ⟨b_416139, hb_416139, hb_416139L, hb_416139k, hb_416139n, hb_416139o⟩ := shp_a (W9 x hLx) hkx 1 14 40 rfl (by decide)
  obtain ⟨b_416140, hb_416140, hb_416140L, hb_416140k, hb_416140n, hb_416140o⟩ := shp_a (W9 x hLx) hkx 2 14 40 rfl (by decide)
  refine g_lo (is := [0, 1, 2]) (lo2 := [(0, .ref x), (1, .int a0), (2, .int a1)]) rfl ?_
  refine g_aload_n C 0 dX7_compares_0 rfl rfl ?_
  refine g_getR C K hLx hkx f_7_15 hb_416139 dX7_compares_1 ?_
  refine g_iload_n C 2 dX7_compares_4 rfl rfl ?_
  obtain ⟨x_416141, hx_416141, rx_416141⟩ := ex_get (I := I) (a := b_416139) (j := a1.toNatClampNeg) (lo := (-2147483648)) (hi := 2147483647) hU hb_416139L (ro_a hb_416139k (by decide) hb_416139o hkx rfl) (rfl)
  refine h_iald C K hb_416139L hb_416139k (v := x_416141) (a1.toNatClampNeg) (rfl) (ix_0 ra1 (by decide)) (ix_lt ra1 (by decide) hb_416139n (by decide)) hx_416141 dX7_compares_5 ?_
  by_cases c_416142 : x_416141.toInt = 60
  · skip
    have r_416143 := rg_of (a := 60) (b := 60) 60 c_416142 (by decide) (by decide)
    refine g_lookup C (tgt := 32) (off := 26) dX7_compares_6 (by decide) (by rw [c_416142]; decide) (by decide) ?_
    refine g_iload_n C 1 dX7_compares_32 rfl rfl ?_
    refine g_aload_n C 0 dX7_compares_33 rfl rfl ?_
    refine g_getR C K hLx hkx f_7_18 hb_416140 dX7_compares_34 ?_
    refine g_iload_n C 2 dX7_compares_37 rfl rfl ?_
    obtain ⟨x_416144, hx_416144, rx_416144⟩ := ex_get (I := I) (a := b_416140) (j := a1.toNatClampNeg) (lo := (-2147483648)) (hi := 2147483647) hU hb_416140L (ro_a hb_416140k (by decide) hb_416140o hkx rfl) (rfl)
    refine h_iald C K hb_416140L hb_416140k (v := x_416144) (a1.toNatClampNeg) (rfl) (ix_0 ra1 (by decide)) (ix_lt ra1 (by decide) hb_416140n (by decide)) hx_416144 dX7_compares_38 ?_
    refine g_icmp_ge C (tgt := 46) dX7_compares_39 (by decide) (fun h_416145 => ?_) (fun h_416145 => ?_)
    · skip
      refine g_iconst C (v := 0) dX7_compares_46 (by decide) ?_
      exact g_zret (ty := .boolean) (r := 0) B K rfl (rfl) ⟨rfl, rfl, rg_w rc_0 (by decide) (by decide)⟩ dX7_compares_47
    · skip
      have r_416146 := lt_l (hi := 2147483646) (nle h_416145) (rg_all a0) rx_416144 (by decide)
      have r_416147 := lt_r (lo := (-2147483647)) (nle h_416145) (rg_all a0) rx_416144 (by decide)
      refine g_iconst C (v := 1) dX7_compares_42 (by decide) ?_
      refine g_goto C (tgt := 47) dX7_compares_43 (by decide) ?_
      exact g_zret (ty := .boolean) (r := 1) B K rfl (rfl) ⟨rfl, rfl, rg_w rc_1 (by decide) (by decide)⟩ dX7_compares_47
  by_cases c_416148 : x_416141.toInt = 62
  · skip
    have r_416149 := rg_of (a := 62) (b := 62) 62 c_416148 (by decide) (by decide)
    refine g_lookup C (tgt := 48) (off := 42) dX7_compares_6 (by decide) (by rw [c_416148]; decide) (by decide) ?_
    refine g_iload_n C 1 dX7_compares_48 rfl rfl ?_
    refine g_aload_n C 0 dX7_compares_49 rfl rfl ?_
    refine g_getR C K hLx hkx f_7_18 hb_416140 dX7_compares_50 ?_
    refine g_iload_n C 2 dX7_compares_53 rfl rfl ?_
    obtain ⟨x_416150, hx_416150, rx_416150⟩ := ex_get (I := I) (a := b_416140) (j := a1.toNatClampNeg) (lo := (-2147483648)) (hi := 2147483647) hU hb_416140L (ro_a hb_416140k (by decide) hb_416140o hkx rfl) (rfl)
    refine h_iald C K hb_416140L hb_416140k (v := x_416150) (a1.toNatClampNeg) (rfl) (ix_0 ra1 (by decide)) (ix_lt ra1 (by decide) hb_416140n (by decide)) hx_416150 dX7_compares_54 ?_
    refine g_icmp_le C (tgt := 62) dX7_compares_55 (by decide) (fun h_416151 => ?_) (fun h_416151 => ?_)
    · skip
      refine g_iconst C (v := 0) dX7_compares_62 (by decide) ?_
      exact g_zret (ty := .boolean) (r := 0) B K rfl (rfl) ⟨rfl, rfl, rg_w rc_0 (by decide) (by decide)⟩ dX7_compares_63
    · skip
      have r_416152 := lt_l (hi := 2147483646) (nle h_416151) rx_416150 (rg_all a0) (by decide)
      have r_416153 := lt_r (lo := (-2147483647)) (nle h_416151) rx_416150 (rg_all a0) (by decide)
      refine g_iconst C (v := 1) dX7_compares_58 (by decide) ?_
      refine g_goto C (tgt := 63) dX7_compares_59 (by decide) ?_
      exact g_zret (ty := .boolean) (r := 1) B K rfl (rfl) ⟨rfl, rfl, rg_w rc_1 (by decide) (by decide)⟩ dX7_compares_63
  obtain ⟨q_4161541, q_4161542⟩ := rx_416141
  refine g_lookup C (tgt := 64) (off := 58) dX7_compares_6 (by decide) (by simp [Op.lookupswitch.offset, c_416142, c_416148]) (by decide) ?_
  refine g_iload_n C 1 dX7_compares_64 rfl rfl ?_
  refine g_aload_n C 0 dX7_compares_65 rfl rfl ?_
  refine g_getR C K hLx hkx f_7_18 hb_416140 dX7_compares_66 ?_
  refine g_iload_n C 2 dX7_compares_69 rfl rfl ?_
  obtain ⟨x_416155, hx_416155, rx_416155⟩ := ex_get (I := I) (a := b_416140) (j := a1.toNatClampNeg) (lo := (-2147483648)) (hi := 2147483647) hU hb_416140L (ro_a hb_416140k (by decide) hb_416140o hkx rfl) (rfl)
  refine h_iald C K hb_416140L hb_416140k (v := x_416155) (a1.toNatClampNeg) (rfl) (ix_0 ra1 (by decide)) (ix_lt ra1 (by decide) hb_416140n (by decide)) hx_416155 dX7_compares_70 ?_
  refine g_icmp_ne C (tgt := 78) dX7_compares_71 (by decide) (fun h_416156 => ?_) (fun h_416156 => ?_)
  · skip
    refine g_iconst C (v := 0) dX7_compares_78 (by decide) ?_
    exact g_zret (ty := .boolean) (r := 0) B K rfl (rfl) ⟨rfl, rfl, rg_w rc_0 (by decide) (by decide)⟩ dX7_compares_79
  · skip
    refine g_iconst C (v := 1) dX7_compares_74 (by decide) ?_
    refine g_goto C (tgt := 79) dX7_compares_75 (by decide) ?_
    exact g_zret (ty := .boolean) (r := 1) B K rfl (rfl) ⟨rfl, rfl, rg_w rc_1 (by decide) (by decide)⟩ dX7_compares_79
set_option maxRecDepth 100000 in
set_option maxHeartbeats 8000000 in
theorem c_X3_keep {l : Launch} {D : va_G} {cy : Nat → ClassId} {L : List Nat} {κ ln : Nat → Nat} {R : Nat → Nat → Option Nat} {I : Nat → Nat → Int32} {J : Nat → Nat → Int64} {ow : Nat → Nat × Nat} (W9 : ∀ a ∈ L, Shp L κ ln R ow a) {x : Nat} (hLx : x ∈ L) (hkx : κ x = 3) {a0 : Nat} (hLa0 : a0 ∈ L) (hka0 : κ a0 = 8) {a1 : Nat} (hLa1 : a1 ∈ L) (hka1 : κ a1 = 1) {a2 : Nat} (hLa2 : a2 ∈ L) (hka2 : κ a2 = 7) (hU : Uv L κ ow I) : CtV l yX3_keep cX3_keep 4 none { frames := 2, cells := 0, slots := 0, locals := 81 } D cy L κ ln R I J [.ref x, .ref a0, .ref a1, .ref a2] (fun I2 J2 => Uv L κ ow I2 ∧ Fq L κ ow [107, 108, 109, 110, 111, 112, 303, 704, 705, 805, 806, 807, 808, 16100, 16200, 16300, 16400, 16500, 16600, 52000, 52100, 52200, 58100, 58200, 58400] I I2 ∧ Fq L κ ow [58000, 58300] J J2) := by
  refine CtV.of (by decide +kernel) (Nat.le_of_ble_eq_true rfl) ?_
  intro p e s m below meth c B K
  have C := B.1
  have hF : Fq L κ ow [107, 108, 109, 110, 111, 112, 303, 704, 705, 805, 806, 807, 808, 16100, 16200, 16300, 16400, 16500, 16600, 52000, 52100, 52200, 58100, 58200, 58400] I I := fq_rf
  have hG : Fq L κ ow [58000, 58300] J J := fq_rf
  obtain ⟨b_416205, hb_416205, hb_416205L, hb_416205k⟩ := shp_o (W9 x hLx) hkx 1 1 rfl (by decide)
  obtain ⟨b_416206, hb_416206, hb_416206L, hb_416206k⟩ := shp_o (W9 x hLx) hkx 2 7 rfl (by decide)
  obtain ⟨b_416207, hb_416207, hb_416207L, hb_416207k⟩ := shp_o (W9 x hLx) hkx 0 8 rfl (by decide)
  refine g_lo (is := [0, 1, 2, 3]) (lo2 := [(0, .ref x), (1, .ref a0), (2, .ref a1), (3, .ref a2)]) rfl ?_
  refine g_aload_n C 0 dX3_keep_0 rfl rfl ?_
  refine g_getR C K hLx hkx f_3_10 hb_416207 dX3_keep_1 ?_
  refine g_aload_n C 1 dX3_keep_4 rfl rfl ?_
  refine g_callVV C K (c_X8_become W9 hb_416207L hb_416207k hLa0 hka0  hU) hb_416207L hb_416207k (by decide) rfl v_3_36 rfl ⟨rfl, rfl⟩ ⟨Nat.le_of_ble_eq_true rfl, Nat.le_of_ble_eq_true rfl⟩ (Nat.le_of_ble_eq_true rfl) ⟨Nat.le_of_ble_eq_true rfl, Nat.le_of_ble_eq_true rfl⟩ dX3_keep_5 rfl (st := []) (fun I_416209 J_416210 h_416211 => ?_)
  obtain ⟨hUI_416209, hFI_416209, hGJ_416210⟩ := h_416211
  have hF_416212 := fq_tr hF hFI_416209 (by decide)
  have hG_416213 := fq_tr hG hGJ_416210 (by decide)
  refine g_aload_n C 0 dX3_keep_8 rfl rfl ?_
  refine g_getR C K hLx hkx f_3_21 hb_416205 dX3_keep_9 ?_
  refine g_aload_n C 2 dX3_keep_12 rfl rfl ?_
  refine g_callVV C K (c_X1_become W9 hb_416205L hb_416205k hLa1 hka1  hUI_416209) hb_416205L hb_416205k (by decide) rfl v_3_39 rfl ⟨rfl, rfl⟩ ⟨Nat.le_of_ble_eq_true rfl, Nat.le_of_ble_eq_true rfl⟩ (Nat.le_of_ble_eq_true rfl) ⟨Nat.le_of_ble_eq_true rfl, Nat.le_of_ble_eq_true rfl⟩ dX3_keep_13 rfl (st := []) (fun I_416215 J_416216 h_416217 => ?_)
  obtain ⟨hUI_416215, hFI_416215, hGJ_416216⟩ := h_416217
  have hF_416218 := fq_tr hF_416212 hFI_416215 (by decide)
  have hG_416219 := fq_tr hG_416213 hGJ_416216 (by decide)
  refine g_aload_n C 0 dX3_keep_16 rfl rfl ?_
  refine g_getR C K hLx hkx f_3_28 hb_416206 dX3_keep_17 ?_
  refine g_aload_n C 3 dX3_keep_20 rfl rfl ?_
  refine g_callVV C K (c_X7_become W9 hb_416206L hb_416206k hLa2 hka2  hUI_416215) hb_416206L hb_416206k (by decide) rfl v_3_42 rfl ⟨rfl, rfl⟩ ⟨Nat.le_of_ble_eq_true rfl, Nat.le_of_ble_eq_true rfl⟩ (Nat.le_of_ble_eq_true rfl) ⟨Nat.le_of_ble_eq_true rfl, Nat.le_of_ble_eq_true rfl⟩ dX3_keep_21 rfl (st := []) (fun I_416221 J_416222 h_416223 => ?_)
  obtain ⟨hUI_416221, hFI_416221, hGJ_416222⟩ := h_416223
  have hF_416224 := fq_tr hF_416218 hFI_416221 (by decide)
  have hG_416225 := fq_tr hG_416219 hGJ_416222 (by decide)
  refine g_aload_n C 0 dX3_keep_24 rfl rfl ?_
  refine g_iconst C (v := 1) dX3_keep_25 (by decide) ?_
  refine h_putZ C K hLx hkx f_3_32 p_3_3 (rg_bool (rg_w rc_1 (by decide) (by decide))) dX3_keep_26 (fun I_416226 hI_416226 => ?_)
  have hU_416227 := uv_put hUI_416221 hI_416226 (ro_o hkx (by decide)) (lo := 0) (hi := 1) rfl (rg_w rc_1 (by decide) (by decide))
  have hF_416228 := fq_puto hF_416224 hI_416226 hkx (by decide) (by decide)
  exact g_vret B K rfl ⟨hU_416227, hF_416228, hG_416225⟩ dX3_keep_29
set_option maxRecDepth 100000 in
set_option maxHeartbeats 8000000 in
theorem c_X11_image {l : Launch} {D : va_G} {cy : Nat → ClassId} {L : List Nat} {κ ln : Nat → Nat} {R : Nat → Nat → Option Nat} {I : Nat → Nat → Int32} {J : Nat → Nat → Int64} {ow : Nat → Nat × Nat} (W9 : ∀ a ∈ L, Shp L κ ln R ow a) {x : Nat} (hLx : x ∈ L) (hkx : κ x = 11) (a0 : Int32) (hU : Uv L κ ow I) : CtI l yX11_image cX11_image 2 (some .boolean) { frames := 3, cells := 0, slots := 0, locals := 104 } D cy L κ ln R I J [.ref x, .int a0] (fun r I2 J2 => Uv L κ ow I2 ∧ Fq L κ ow [107, 108, 109, 110, 111, 112, 303, 704, 705, 805, 806, 807, 808, 16100, 16200, 16300, 16400, 16500, 16600, 52000, 52100, 52200, 58100, 58200, 58400] I I2 ∧ Fq L κ ow [58000, 58300] J J2 ∧ Rg 0 1 r) := by
  refine CtI.of (by decide +kernel) (Nat.le_of_ble_eq_true rfl) ?_
  intro p e s m below meth c B K
  have C := B.1
  have hF : Fq L κ ow [107, 108, 109, 110, 111, 112, 303, 704, 705, 805, 806, 807, 808, 16100, 16200, 16300, 16400, 16500, 16600, 52000, 52100, 52200, 58100, 58200, 58400] I I := fq_rf
  have hG : Fq L κ ow [58000, 58300] J J := fq_rf
  obtain ⟨b_416263, hb_416263, hb_416263L, hb_416263k⟩ := shp_o (W9 x hLx) hkx 1 8 rfl (by decide)
  obtain ⟨b_416264, hb_416264, hb_416264L, hb_416264k⟩ := shp_o (W9 x hLx) hkx 2 1 rfl (by decide)
  obtain ⟨b_416265, hb_416265, hb_416265L, hb_416265k, hb_416265n, hb_416265o⟩ := shp_a (W9 x hLx) hkx 12 18 2 rfl (by decide)
  obtain ⟨b_416266, hb_416266, hb_416266L, hb_416266k⟩ := shp_o (W9 x hLx) hkx 7 7 rfl (by decide)
  refine g_lo (is := [0, 1]) (lo2 := [(0, .ref x), (1, .int a0)]) rfl ?_
  refine g_iload_n C 1 dX11_image_0 rfl rfl ?_
  refine g_if_lt C (tgt := 9) dX11_image_1 (by decide) (fun h_416267 => ?_) (fun h_416267 => ?_)
  · skip
    have r_416268 := lt_l (hi := (-1)) (h_416267) (rg_all a0) rc_0 (by decide)
    refine g_iconst C (v := 0) dX11_image_9 (by decide) ?_
    exact g_zret (ty := .boolean) (r := 0) B K rfl (rfl) ⟨hU, hF, hG, rg_w rc_0 (by decide) (by decide)⟩ dX11_image_10
  · skip
    have r_416269 := le_r (nlt h_416267) rc_0 (rg_all a0)
    refine g_iload_n C 1 dX11_image_4 rfl rfl ?_
    refine g_iconst C (v := 2) dX11_image_5 (by decide) ?_
    refine g_icmp_lt C (tgt := 11) dX11_image_6 (by decide) (fun h_416270 => ?_) (fun h_416270 => ?_)
    · skip
      have r_416271 := lt_l (hi := 1) (h_416270) r_416269 rc_2 (by decide)
      refine g_aload_n C 0 dX11_image_11 rfl rfl ?_
      refine g_getR C K hLx hkx f_11_89 hb_416265 dX11_image_12 ?_
      refine g_iload_n C 1 dX11_image_15 rfl rfl ?_
      obtain ⟨b_416272, hb_416272, hb_416272L, hb_416272k⟩ := (W9 b_416265 hb_416265L).2.2 hb_416265k (a0.toNatClampNeg) (ix_lt r_416271 (by decide) hb_416265n (by decide))
      refine h_aaldI C K hb_416265L hb_416265k (a0.toNatClampNeg) (rfl) (ix_0 r_416271 (by decide)) (ix_lt r_416271 (by decide) hb_416265n (by decide)) hb_416272 dX11_image_16 ?_
      refine g_aload_n C 0 dX11_image_17 rfl rfl ?_
      refine g_getR C K hLx hkx f_11_19 hb_416263 dX11_image_18 ?_
      refine g_aload_n C 0 dX11_image_21 rfl rfl ?_
      refine g_getR C K hLx hkx f_11_28 hb_416264 dX11_image_22 ?_
      refine g_aload_n C 0 dX11_image_25 rfl rfl ?_
      refine g_getR C K hLx hkx f_11_59 hb_416266 dX11_image_26 ?_
      refine g_callVV C K (c_X3_keep W9 hb_416272L hb_416272k hb_416263L hb_416263k hb_416264L hb_416264k hb_416266L hb_416266k  hU) hb_416272L hb_416272k (by decide) rfl v_11_379 rfl ⟨rfl, rfl⟩ ⟨Nat.le_of_ble_eq_true rfl, Nat.le_of_ble_eq_true rfl⟩ (Nat.le_of_ble_eq_true rfl) ⟨Nat.le_of_ble_eq_true rfl, Nat.le_of_ble_eq_true rfl⟩ dX11_image_29 rfl (st := []) (fun I_416274 J_416275 h_416276 => ?_)
      obtain ⟨hUI_416274, hFI_416274, hGJ_416275⟩ := h_416276
      have hF_416277 := fq_tr hF hFI_416274 (by decide)
      have hG_416278 := fq_tr hG hGJ_416275 (by decide)
      refine g_iconst C (v := 1) dX11_image_32 (by decide) ?_
      exact g_zret (ty := .boolean) (r := 1) B K rfl (rfl) ⟨hUI_416274, hF_416277, hG_416278, rg_w rc_1 (by decide) (by decide)⟩ dX11_image_33
    · skip
      have r_416279 := le_r (nlt h_416270) rc_2 r_416269
      refine g_iconst C (v := 0) dX11_image_9 (by decide) ?_
      exact g_zret (ty := .boolean) (r := 0) B K rfl (rfl) ⟨hU, hF, hG, rg_w rc_0 (by decide) (by decide)⟩ dX11_image_10
set_option maxRecDepth 100000 in
set_option maxHeartbeats 8000000 in
theorem c_X11_restore {l : Launch} {D : va_G} {cy : Nat → ClassId} {L : List Nat} {κ ln : Nat → Nat} {R : Nat → Nat → Option Nat} {I : Nat → Nat → Int32} {J : Nat → Nat → Int64} {ow : Nat → Nat × Nat} (W9 : ∀ a ∈ L, Shp L κ ln R ow a) {x : Nat} (hLx : x ∈ L) (hkx : κ x = 11) (a0 : Int32) (hU : Uv L κ ow I) : CtI l yX11_restore cX11_restore 2 (some .boolean) { frames := 2, cells := 0, slots := 0, locals := 81 } D cy L κ ln R I J [.ref x, .int a0] (fun r I2 J2 => Uv L κ ow I2 ∧ Fq L κ ow [107, 108, 109, 110, 111, 112, 501, 704, 705, 805, 806, 807, 808, 16100, 16200, 16300, 16400, 16500, 16600, 52000, 52100, 52200, 58100, 58200, 58400] I I2 ∧ Fq L κ ow [58000, 58300] J J2 ∧ Rg 0 1 r) := by
  refine CtI.of (by decide +kernel) (Nat.le_of_ble_eq_true rfl) ?_
  intro p e s m below meth c B K
  have C := B.1
  have hF : Fq L κ ow [107, 108, 109, 110, 111, 112, 501, 704, 705, 805, 806, 807, 808, 16100, 16200, 16300, 16400, 16500, 16600, 52000, 52100, 52200, 58100, 58200, 58400] I I := fq_rf
  have hG : Fq L κ ow [58000, 58300] J J := fq_rf
  obtain ⟨b_416374, hb_416374, hb_416374L, hb_416374k⟩ := shp_o (W9 x hLx) hkx 1 8 rfl (by decide)
  obtain ⟨b_416375, hb_416375, hb_416375L, hb_416375k⟩ := shp_o (W9 x hLx) hkx 2 1 rfl (by decide)
  obtain ⟨b_416376, hb_416376, hb_416376L, hb_416376k, hb_416376n, hb_416376o⟩ := shp_a (W9 x hLx) hkx 12 18 2 rfl (by decide)
  obtain ⟨b_416377, hb_416377, hb_416377L, hb_416377k⟩ := shp_o (W9 x hLx) hkx 7 7 rfl (by decide)
  obtain ⟨b_416378, hb_416378, hb_416378L, hb_416378k⟩ := shp_o (W9 x hLx) hkx 4 5 rfl (by decide)
  refine g_lo (is := [0, 1]) (lo2 := [(0, .ref x), (1, .int a0)]) rfl ?_
  refine g_iload_n C 1 dX11_restore_0 rfl rfl ?_
  refine g_if_lt C (tgt := 21) dX11_restore_1 (by decide) (fun h_416379 => ?_) (fun h_416379 => ?_)
  · skip
    have r_416380 := lt_l (hi := (-1)) (h_416379) (rg_all a0) rc_0 (by decide)
    refine g_iconst C (v := 0) dX11_restore_21 (by decide) ?_
    exact g_zret (ty := .boolean) (r := 0) B K rfl (rfl) ⟨hU, hF, hG, rg_w rc_0 (by decide) (by decide)⟩ dX11_restore_22
  · skip
    have r_416381 := le_r (nlt h_416379) rc_0 (rg_all a0)
    refine g_iload_n C 1 dX11_restore_4 rfl rfl ?_
    refine g_iconst C (v := 2) dX11_restore_5 (by decide) ?_
    refine g_icmp_ge C (tgt := 21) dX11_restore_6 (by decide) (fun h_416382 => ?_) (fun h_416382 => ?_)
    · skip
      have r_416383 := le_r (h_416382) rc_2 r_416381
      refine g_iconst C (v := 0) dX11_restore_21 (by decide) ?_
      exact g_zret (ty := .boolean) (r := 0) B K rfl (rfl) ⟨hU, hF, hG, rg_w rc_0 (by decide) (by decide)⟩ dX11_restore_22
    · skip
      have r_416384 := lt_l (hi := 1) (nle h_416382) r_416381 rc_2 (by decide)
      refine g_aload_n C 0 dX11_restore_9 rfl rfl ?_
      refine g_getR C K hLx hkx f_11_89 hb_416376 dX11_restore_10 ?_
      refine g_iload_n C 1 dX11_restore_13 rfl rfl ?_
      obtain ⟨b_416385, hb_416385, hb_416385L, hb_416385k⟩ := (W9 b_416376 hb_416376L).2.2 hb_416376k (a0.toNatClampNeg) (ix_lt r_416384 (by decide) hb_416376n (by decide))
      refine h_aaldI C K hb_416376L hb_416376k (a0.toNatClampNeg) (rfl) (ix_0 r_416384 (by decide)) (ix_lt r_416384 (by decide) hb_416376n (by decide)) hb_416385 dX11_restore_14 ?_
      obtain ⟨x_416386, hx_416386, rx_416386⟩ := ex_get (I := I) (a := b_416385) (j := 3) (lo := 0) (hi := 1) hU hb_416385L (ro_o hb_416385k (by decide)) rfl
      refine g_getI C K hb_416385L hb_416385k f_11_383 (v := x_416386) hx_416386 dX11_restore_15 ?_
      refine g_if_ne C (tgt := 23) dX11_restore_18 (by decide) (fun h_416387 => ?_) (fun h_416387 => ?_)
      · skip
        have n_416388 : ¬ x_416386 = 0 := h_416387
        have r_416389 := ne_lo (lo := 1) n_416388 rx_416386 rc_0 rfl (by decide)
        refine g_aload_n C 0 dX11_restore_23 rfl rfl ?_
        refine g_getR C K hLx hkx f_11_19 hb_416374 dX11_restore_24 ?_
        refine g_aload_n C 0 dX11_restore_27 rfl rfl ?_
        refine g_getR C K hLx hkx f_11_89 hb_416376 dX11_restore_28 ?_
        refine g_iload_n C 1 dX11_restore_31 rfl rfl ?_
        obtain ⟨b_416390, hb_416390, hb_416390L, hb_416390k⟩ := (W9 b_416376 hb_416376L).2.2 hb_416376k (a0.toNatClampNeg) (ix_lt r_416384 (by decide) hb_416376n (by decide))
        refine h_aaldI C K hb_416376L hb_416376k (a0.toNatClampNeg) (rfl) (ix_0 r_416384 (by decide)) (ix_lt r_416384 (by decide) hb_416376n (by decide)) hb_416390 dX11_restore_32 ?_
        obtain ⟨b_416391, hb_416391, hb_416391L, hb_416391k⟩ := shp_o (W9 b_416390 hb_416390L) hb_416390k 0 8 rfl (by decide)
        refine g_getR C K hb_416390L hb_416390k f_11_386 hb_416391 dX11_restore_33 ?_
        refine g_callVV C K (c_X8_become W9 hb_416374L hb_416374k hb_416391L hb_416391k  hU) hb_416374L hb_416374k (by decide) rfl v_11_120 rfl ⟨rfl, rfl⟩ ⟨Nat.le_of_ble_eq_true rfl, Nat.le_of_ble_eq_true rfl⟩ (Nat.le_of_ble_eq_true rfl) ⟨Nat.le_of_ble_eq_true rfl, Nat.le_of_ble_eq_true rfl⟩ dX11_restore_36 rfl (st := []) (fun I_416393 J_416394 h_416395 => ?_)
        obtain ⟨hUI_416393, hFI_416393, hGJ_416394⟩ := h_416395
        have hF_416396 := fq_tr hF hFI_416393 (by decide)
        have hG_416397 := fq_tr hG hGJ_416394 (by decide)
        refine g_aload_n C 0 dX11_restore_39 rfl rfl ?_
        refine g_getR C K hLx hkx f_11_28 hb_416375 dX11_restore_40 ?_
        refine g_aload_n C 0 dX11_restore_43 rfl rfl ?_
        refine g_getR C K hLx hkx f_11_89 hb_416376 dX11_restore_44 ?_
        refine g_iload_n C 1 dX11_restore_47 rfl rfl ?_
        obtain ⟨b_416398, hb_416398, hb_416398L, hb_416398k⟩ := (W9 b_416376 hb_416376L).2.2 hb_416376k (a0.toNatClampNeg) (ix_lt r_416384 (by decide) hb_416376n (by decide))
        refine h_aaldI C K hb_416376L hb_416376k (a0.toNatClampNeg) (rfl) (ix_0 r_416384 (by decide)) (ix_lt r_416384 (by decide) hb_416376n (by decide)) hb_416398 dX11_restore_48 ?_
        obtain ⟨b_416399, hb_416399, hb_416399L, hb_416399k⟩ := shp_o (W9 b_416398 hb_416398L) hb_416398k 1 1 rfl (by decide)
        refine g_getR C K hb_416398L hb_416398k f_11_387 hb_416399 dX11_restore_49 ?_
        refine g_callVV C K (c_X1_become W9 hb_416375L hb_416375k hb_416399L hb_416399k  hUI_416393) hb_416375L hb_416375k (by decide) rfl v_11_126 rfl ⟨rfl, rfl⟩ ⟨Nat.le_of_ble_eq_true rfl, Nat.le_of_ble_eq_true rfl⟩ (Nat.le_of_ble_eq_true rfl) ⟨Nat.le_of_ble_eq_true rfl, Nat.le_of_ble_eq_true rfl⟩ dX11_restore_52 rfl (st := []) (fun I_416401 J_416402 h_416403 => ?_)
        obtain ⟨hUI_416401, hFI_416401, hGJ_416402⟩ := h_416403
        have hF_416404 := fq_tr hF_416396 hFI_416401 (by decide)
        have hG_416405 := fq_tr hG_416397 hGJ_416402 (by decide)
        refine g_aload_n C 0 dX11_restore_55 rfl rfl ?_
        refine g_getR C K hLx hkx f_11_59 hb_416377 dX11_restore_56 ?_
        refine g_aload_n C 0 dX11_restore_59 rfl rfl ?_
        refine g_getR C K hLx hkx f_11_89 hb_416376 dX11_restore_60 ?_
        refine g_iload_n C 1 dX11_restore_63 rfl rfl ?_
        obtain ⟨b_416406, hb_416406, hb_416406L, hb_416406k⟩ := (W9 b_416376 hb_416376L).2.2 hb_416376k (a0.toNatClampNeg) (ix_lt r_416384 (by decide) hb_416376n (by decide))
        refine h_aaldI C K hb_416376L hb_416376k (a0.toNatClampNeg) (rfl) (ix_0 r_416384 (by decide)) (ix_lt r_416384 (by decide) hb_416376n (by decide)) hb_416406 dX11_restore_64 ?_
        obtain ⟨b_416407, hb_416407, hb_416407L, hb_416407k⟩ := shp_o (W9 b_416406 hb_416406L) hb_416406k 2 7 rfl (by decide)
        refine g_getR C K hb_416406L hb_416406k f_11_388 hb_416407 dX11_restore_65 ?_
        refine g_callVV C K (c_X7_become W9 hb_416377L hb_416377k hb_416407L hb_416407k  hUI_416401) hb_416377L hb_416377k (by decide) rfl v_11_365 rfl ⟨rfl, rfl⟩ ⟨Nat.le_of_ble_eq_true rfl, Nat.le_of_ble_eq_true rfl⟩ (Nat.le_of_ble_eq_true rfl) ⟨Nat.le_of_ble_eq_true rfl, Nat.le_of_ble_eq_true rfl⟩ dX11_restore_68 rfl (st := []) (fun I_416409 J_416410 h_416411 => ?_)
        obtain ⟨hUI_416409, hFI_416409, hGJ_416410⟩ := h_416411
        have hF_416412 := fq_tr hF_416404 hFI_416409 (by decide)
        have hG_416413 := fq_tr hG_416405 hGJ_416410 (by decide)
        refine g_aload_n C 0 dX11_restore_71 rfl rfl ?_
        refine g_getR C K hLx hkx f_11_38 hb_416378 dX11_restore_72 ?_
        refine g_callVV C K (c_X5_forget W9 hb_416378L hb_416378k   hUI_416409) hb_416378L hb_416378k (by decide) rfl v_11_132 rfl ⟨rfl, rfl⟩ ⟨Nat.le_of_ble_eq_true rfl, Nat.le_of_ble_eq_true rfl⟩ (Nat.le_of_ble_eq_true rfl) ⟨Nat.le_of_ble_eq_true rfl, Nat.le_of_ble_eq_true rfl⟩ dX11_restore_75 rfl (st := []) (fun I_416415 J_416416 h_416417 => ?_)
        obtain ⟨hUI_416415, hFI_416415, hGJ_416416⟩ := h_416417
        have hF_416418 := fq_tr hF_416412 hFI_416415 (by decide)
        have hG_416419 := fq_tr hG_416413 hGJ_416416 (by decide)
        refine g_iconst C (v := 1) dX11_restore_78 (by decide) ?_
        exact g_zret (ty := .boolean) (r := 1) B K rfl (rfl) ⟨hUI_416415, hF_416418, hG_416419, rg_w rc_1 (by decide) (by decide)⟩ dX11_restore_79
      · skip
        have r_416420 := (⟨(rx_416386).1, (eq_rg (h_416387) rc_0).2⟩ : Rg 0 0 x_416386)
        refine g_iconst C (v := 0) dX11_restore_21 (by decide) ?_
        exact g_zret (ty := .boolean) (r := 0) B K rfl (rfl) ⟨hU, hF, hG, rg_w rc_0 (by decide) (by decide)⟩ dX11_restore_22
