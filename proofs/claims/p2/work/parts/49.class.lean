theorem dX11_image_0 : decode cX11_image 0 = .ok (.iload_n 1, 1) := by decide +kernel
theorem dX11_image_1 : decode cX11_image 1 = .ok (.ifCond .lt 8, 3) := by decide +kernel
theorem dX11_image_4 : decode cX11_image 4 = .ok (.iload_n 1, 1) := by decide +kernel
theorem dX11_image_5 : decode cX11_image 5 = .ok (.iconst 2, 1) := by decide +kernel
theorem dX11_image_6 : decode cX11_image 6 = .ok (.if_icmp .lt 5, 3) := by decide +kernel
theorem dX11_image_9 : decode cX11_image 9 = .ok (.iconst 0, 1) := by decide +kernel
theorem dX11_image_10 : decode cX11_image 10 = .ok (.ireturn, 1) := by decide +kernel
theorem dX11_image_11 : decode cX11_image 11 = .ok (.aload_n 0, 1) := by decide +kernel
theorem dX11_image_12 : decode cX11_image 12 = .ok (.getfield 89, 3) := by decide +kernel
theorem dX11_image_15 : decode cX11_image 15 = .ok (.iload_n 1, 1) := by decide +kernel
theorem dX11_image_16 : decode cX11_image 16 = .ok (.aaload, 1) := by decide +kernel
theorem dX11_image_17 : decode cX11_image 17 = .ok (.aload_n 0, 1) := by decide +kernel
theorem dX11_image_18 : decode cX11_image 18 = .ok (.getfield 19, 3) := by decide +kernel
theorem dX11_image_21 : decode cX11_image 21 = .ok (.aload_n 0, 1) := by decide +kernel
theorem dX11_image_22 : decode cX11_image 22 = .ok (.getfield 28, 3) := by decide +kernel
theorem dX11_image_25 : decode cX11_image 25 = .ok (.aload_n 0, 1) := by decide +kernel
theorem dX11_image_26 : decode cX11_image 26 = .ok (.getfield 59, 3) := by decide +kernel
theorem dX11_image_29 : decode cX11_image 29 = .ok (.invokevirtual 379, 3) := by decide +kernel
theorem dX11_image_32 : decode cX11_image 32 = .ok (.iconst 1, 1) := by decide +kernel
theorem dX11_image_33 : decode cX11_image 33 = .ok (.ireturn, 1) := by decide +kernel
theorem dX11_restore_0 : decode cX11_restore 0 = .ok (.iload_n 1, 1) := by decide +kernel
theorem dX11_restore_1 : decode cX11_restore 1 = .ok (.ifCond .lt 20, 3) := by decide +kernel
theorem dX11_restore_4 : decode cX11_restore 4 = .ok (.iload_n 1, 1) := by decide +kernel
theorem dX11_restore_5 : decode cX11_restore 5 = .ok (.iconst 2, 1) := by decide +kernel
theorem dX11_restore_6 : decode cX11_restore 6 = .ok (.if_icmp .ge 15, 3) := by decide +kernel
theorem dX11_restore_9 : decode cX11_restore 9 = .ok (.aload_n 0, 1) := by decide +kernel
theorem dX11_restore_10 : decode cX11_restore 10 = .ok (.getfield 89, 3) := by decide +kernel
theorem dX11_restore_13 : decode cX11_restore 13 = .ok (.iload_n 1, 1) := by decide +kernel
theorem dX11_restore_14 : decode cX11_restore 14 = .ok (.aaload, 1) := by decide +kernel
theorem dX11_restore_15 : decode cX11_restore 15 = .ok (.getfield 383, 3) := by decide +kernel
theorem dX11_restore_18 : decode cX11_restore 18 = .ok (.ifCond .ne 5, 3) := by decide +kernel
theorem dX11_restore_21 : decode cX11_restore 21 = .ok (.iconst 0, 1) := by decide +kernel
theorem dX11_restore_22 : decode cX11_restore 22 = .ok (.ireturn, 1) := by decide +kernel
theorem dX11_restore_23 : decode cX11_restore 23 = .ok (.aload_n 0, 1) := by decide +kernel
theorem dX11_restore_24 : decode cX11_restore 24 = .ok (.getfield 19, 3) := by decide +kernel
theorem dX11_restore_27 : decode cX11_restore 27 = .ok (.aload_n 0, 1) := by decide +kernel
theorem dX11_restore_28 : decode cX11_restore 28 = .ok (.getfield 89, 3) := by decide +kernel
theorem dX11_restore_31 : decode cX11_restore 31 = .ok (.iload_n 1, 1) := by decide +kernel
theorem dX11_restore_32 : decode cX11_restore 32 = .ok (.aaload, 1) := by decide +kernel
theorem dX11_restore_33 : decode cX11_restore 33 = .ok (.getfield 386, 3) := by decide +kernel
theorem dX11_restore_36 : decode cX11_restore 36 = .ok (.invokevirtual 120, 3) := by decide +kernel
theorem dX11_restore_39 : decode cX11_restore 39 = .ok (.aload_n 0, 1) := by decide +kernel
theorem dX11_restore_40 : decode cX11_restore 40 = .ok (.getfield 28, 3) := by decide +kernel
theorem dX11_restore_43 : decode cX11_restore 43 = .ok (.aload_n 0, 1) := by decide +kernel
theorem dX11_restore_44 : decode cX11_restore 44 = .ok (.getfield 89, 3) := by decide +kernel
theorem dX11_restore_47 : decode cX11_restore 47 = .ok (.iload_n 1, 1) := by decide +kernel
theorem dX11_restore_48 : decode cX11_restore 48 = .ok (.aaload, 1) := by decide +kernel
theorem dX11_restore_49 : decode cX11_restore 49 = .ok (.getfield 387, 3) := by decide +kernel
theorem dX11_restore_52 : decode cX11_restore 52 = .ok (.invokevirtual 126, 3) := by decide +kernel
theorem dX11_restore_55 : decode cX11_restore 55 = .ok (.aload_n 0, 1) := by decide +kernel
theorem dX11_restore_56 : decode cX11_restore 56 = .ok (.getfield 59, 3) := by decide +kernel
theorem dX11_restore_59 : decode cX11_restore 59 = .ok (.aload_n 0, 1) := by decide +kernel
theorem dX11_restore_60 : decode cX11_restore 60 = .ok (.getfield 89, 3) := by decide +kernel
theorem dX11_restore_63 : decode cX11_restore 63 = .ok (.iload_n 1, 1) := by decide +kernel
theorem dX11_restore_64 : decode cX11_restore 64 = .ok (.aaload, 1) := by decide +kernel
theorem dX11_restore_65 : decode cX11_restore 65 = .ok (.getfield 388, 3) := by decide +kernel
theorem dX11_restore_68 : decode cX11_restore 68 = .ok (.invokevirtual 365, 3) := by decide +kernel
theorem dX11_restore_71 : decode cX11_restore 71 = .ok (.aload_n 0, 1) := by decide +kernel
theorem dX11_restore_72 : decode cX11_restore 72 = .ok (.getfield 38, 3) := by decide +kernel
theorem dX11_restore_75 : decode cX11_restore 75 = .ok (.invokevirtual 132, 3) := by decide +kernel
theorem dX11_restore_78 : decode cX11_restore 78 = .ok (.iconst 1, 1) := by decide +kernel
theorem dX11_restore_79 : decode cX11_restore 79 = .ok (.ireturn, 1) := by decide +kernel
theorem dX3_keep_0 : decode cX3_keep 0 = .ok (.aload_n 0, 1) := by decide +kernel
theorem dX3_keep_1 : decode cX3_keep 1 = .ok (.getfield 10, 3) := by decide +kernel
theorem dX3_keep_4 : decode cX3_keep 4 = .ok (.aload_n 1, 1) := by decide +kernel
theorem dX3_keep_5 : decode cX3_keep 5 = .ok (.invokevirtual 36, 3) := by decide +kernel
theorem dX3_keep_8 : decode cX3_keep 8 = .ok (.aload_n 0, 1) := by decide +kernel
theorem dX3_keep_9 : decode cX3_keep 9 = .ok (.getfield 21, 3) := by decide +kernel
theorem dX3_keep_12 : decode cX3_keep 12 = .ok (.aload_n 2, 1) := by decide +kernel
theorem dX3_keep_13 : decode cX3_keep 13 = .ok (.invokevirtual 39, 3) := by decide +kernel
theorem dX3_keep_16 : decode cX3_keep 16 = .ok (.aload_n 0, 1) := by decide +kernel
theorem dX3_keep_17 : decode cX3_keep 17 = .ok (.getfield 28, 3) := by decide +kernel
theorem dX3_keep_20 : decode cX3_keep 20 = .ok (.aload_n 3, 1) := by decide +kernel
theorem dX3_keep_21 : decode cX3_keep 21 = .ok (.invokevirtual 42, 3) := by decide +kernel
theorem dX3_keep_24 : decode cX3_keep 24 = .ok (.aload_n 0, 1) := by decide +kernel
theorem dX3_keep_25 : decode cX3_keep 25 = .ok (.iconst 1, 1) := by decide +kernel
theorem dX3_keep_26 : decode cX3_keep 26 = .ok (.putfield 32, 3) := by decide +kernel
theorem dX3_keep_29 : decode cX3_keep 29 = .ok (.return_, 1) := by decide +kernel
theorem dX7_compares_0 : decode cX7_compares 0 = .ok (.aload_n 0, 1) := by decide +kernel
theorem dX7_compares_1 : decode cX7_compares 1 = .ok (.getfield 15, 3) := by decide +kernel
theorem dX7_compares_4 : decode cX7_compares 4 = .ok (.iload_n 2, 1) := by decide +kernel
theorem dX7_compares_5 : decode cX7_compares 5 = .ok (.iaload, 1) := by decide +kernel
theorem dX7_compares_6 : decode cX7_compares 6 = .ok (.lookupswitch 58 #[(60, 26), (62, 42)], 26) := by decide +kernel
theorem dX7_compares_32 : decode cX7_compares 32 = .ok (.iload_n 1, 1) := by decide +kernel
theorem dX7_compares_33 : decode cX7_compares 33 = .ok (.aload_n 0, 1) := by decide +kernel
theorem dX7_compares_34 : decode cX7_compares 34 = .ok (.getfield 18, 3) := by decide +kernel
theorem dX7_compares_37 : decode cX7_compares 37 = .ok (.iload_n 2, 1) := by decide +kernel
theorem dX7_compares_38 : decode cX7_compares 38 = .ok (.iaload, 1) := by decide +kernel
theorem dX7_compares_39 : decode cX7_compares 39 = .ok (.if_icmp .ge 7, 3) := by decide +kernel
theorem dX7_compares_42 : decode cX7_compares 42 = .ok (.iconst 1, 1) := by decide +kernel
theorem dX7_compares_43 : decode cX7_compares 43 = .ok (.goto 4, 3) := by decide +kernel
theorem dX7_compares_46 : decode cX7_compares 46 = .ok (.iconst 0, 1) := by decide +kernel
theorem dX7_compares_47 : decode cX7_compares 47 = .ok (.ireturn, 1) := by decide +kernel
theorem dX7_compares_48 : decode cX7_compares 48 = .ok (.iload_n 1, 1) := by decide +kernel
theorem dX7_compares_49 : decode cX7_compares 49 = .ok (.aload_n 0, 1) := by decide +kernel
theorem dX7_compares_50 : decode cX7_compares 50 = .ok (.getfield 18, 3) := by decide +kernel
theorem dX7_compares_53 : decode cX7_compares 53 = .ok (.iload_n 2, 1) := by decide +kernel
theorem dX7_compares_54 : decode cX7_compares 54 = .ok (.iaload, 1) := by decide +kernel
theorem dX7_compares_55 : decode cX7_compares 55 = .ok (.if_icmp .le 7, 3) := by decide +kernel
theorem dX7_compares_58 : decode cX7_compares 58 = .ok (.iconst 1, 1) := by decide +kernel
theorem dX7_compares_59 : decode cX7_compares 59 = .ok (.goto 4, 3) := by decide +kernel
theorem dX7_compares_62 : decode cX7_compares 62 = .ok (.iconst 0, 1) := by decide +kernel
theorem dX7_compares_63 : decode cX7_compares 63 = .ok (.ireturn, 1) := by decide +kernel
theorem dX7_compares_64 : decode cX7_compares 64 = .ok (.iload_n 1, 1) := by decide +kernel
theorem dX7_compares_65 : decode cX7_compares 65 = .ok (.aload_n 0, 1) := by decide +kernel
theorem dX7_compares_66 : decode cX7_compares 66 = .ok (.getfield 18, 3) := by decide +kernel
theorem dX7_compares_69 : decode cX7_compares 69 = .ok (.iload_n 2, 1) := by decide +kernel
theorem dX7_compares_70 : decode cX7_compares 70 = .ok (.iaload, 1) := by decide +kernel
theorem dX7_compares_71 : decode cX7_compares 71 = .ok (.if_icmp .ne 7, 3) := by decide +kernel
theorem dX7_compares_74 : decode cX7_compares 74 = .ok (.iconst 1, 1) := by decide +kernel
theorem dX7_compares_75 : decode cX7_compares 75 = .ok (.goto 4, 3) := by decide +kernel
theorem dX7_compares_78 : decode cX7_compares 78 = .ok (.iconst 0, 1) := by decide +kernel
theorem dX7_compares_79 : decode cX7_compares 79 = .ok (.ireturn, 1) := by decide +kernel
set_option maxRecDepth 100000 in
set_option maxHeartbeats 8000000 in
theorem c_X7_compares {l : Launch} {D : va_G} {cy : Nat → ClassId} {L : List Nat} {κ ln : Nat → Nat} {R : Nat → Nat → Option Nat} {I : Nat → Nat → Int32} {J : Nat → Nat → Int64} {ow : Nat → Nat × Nat} (W9 : ∀ a ∈ L, Shp L κ ln R ow a) {x : Nat} (hLx : x ∈ L) (hkx : κ x = 7) (a0 : Int32) (a1 : Int32) (ra1 : Rg 0 39 a1) (hU : Uv L κ ow I) : CtI l yX7_compares cX7_compares 3 (some .boolean) { frames := 0, cells := 0, slots := 0, locals := 0 } D cy L κ ln R I J [.ref x, .int a0, .int a1] (fun r I2 J2 => I = I2 ∧ J = J2 ∧ Rg 0 1 r) := by
  refine CtI.of (by decide +kernel) (Nat.le_of_ble_eq_true rfl) ?_
  intro p e s m below meth c B K
  have C := B.1
  obtain ⟨b_416236, hb_416236, hb_416236L, hb_416236k, hb_416236n, hb_416236o⟩ := shp_a (W9 x hLx) hkx 1 14 40 rfl (by decide)
  obtain ⟨b_416237, hb_416237, hb_416237L, hb_416237k, hb_416237n, hb_416237o⟩ := shp_a (W9 x hLx) hkx 2 14 40 rfl (by decide)
  refine g_lo (is := [0, 1, 2]) (lo2 := [(0, .ref x), (1, .int a0), (2, .int a1)]) rfl ?_
  refine g_aload_n C 0 dX7_compares_0 rfl rfl ?_
  refine g_getR C K hLx hkx f_7_15 hb_416236 dX7_compares_1 ?_
  refine g_iload_n C 2 dX7_compares_4 rfl rfl ?_
  obtain ⟨x_416238, hx_416238, rx_416238⟩ := ex_get (I := I) (a := b_416236) (j := a1.toNatClampNeg) (lo := (-2147483648)) (hi := 2147483647) hU hb_416236L (ro_a hb_416236k (by decide) hb_416236o hkx rfl) (rfl)
  refine h_iald C K hb_416236L hb_416236k (v := x_416238) (a1.toNatClampNeg) (rfl) (ix_0 ra1 (by decide)) (ix_lt ra1 (by decide) hb_416236n (by decide)) hx_416238 dX7_compares_5 ?_
  by_cases c_416239 : x_416238.toInt = 60
  · skip
    have r_416240 := rg_of (a := 60) (b := 60) 60 c_416239 (by decide) (by decide)
    refine g_lookup C (tgt := 32) (off := 26) dX7_compares_6 (by decide) (by rw [c_416239]; decide) (by decide) ?_
    refine g_iload_n C 1 dX7_compares_32 rfl rfl ?_
    refine g_aload_n C 0 dX7_compares_33 rfl rfl ?_
    refine g_getR C K hLx hkx f_7_18 hb_416237 dX7_compares_34 ?_
    refine g_iload_n C 2 dX7_compares_37 rfl rfl ?_
    obtain ⟨x_416241, hx_416241, rx_416241⟩ := ex_get (I := I) (a := b_416237) (j := a1.toNatClampNeg) (lo := (-2147483648)) (hi := 2147483647) hU hb_416237L (ro_a hb_416237k (by decide) hb_416237o hkx rfl) (rfl)
    refine h_iald C K hb_416237L hb_416237k (v := x_416241) (a1.toNatClampNeg) (rfl) (ix_0 ra1 (by decide)) (ix_lt ra1 (by decide) hb_416237n (by decide)) hx_416241 dX7_compares_38 ?_
    refine g_icmp_ge C (tgt := 46) dX7_compares_39 (by decide) (fun h_416242 => ?_) (fun h_416242 => ?_)
    · skip
      refine g_iconst C (v := 0) dX7_compares_46 (by decide) ?_
      exact g_zret (ty := .boolean) (r := 0) B K rfl (rfl) ⟨rfl, rfl, rg_w rc_0 (by decide) (by decide)⟩ dX7_compares_47
    · skip
      have r_416243 := lt_l (hi := 2147483646) (nle h_416242) (rg_all a0) rx_416241 (by decide)
      have r_416244 := lt_r (lo := (-2147483647)) (nle h_416242) (rg_all a0) rx_416241 (by decide)
      refine g_iconst C (v := 1) dX7_compares_42 (by decide) ?_
      refine g_goto C (tgt := 47) dX7_compares_43 (by decide) ?_
      exact g_zret (ty := .boolean) (r := 1) B K rfl (rfl) ⟨rfl, rfl, rg_w rc_1 (by decide) (by decide)⟩ dX7_compares_47
  by_cases c_416245 : x_416238.toInt = 62
  · skip
    have r_416246 := rg_of (a := 62) (b := 62) 62 c_416245 (by decide) (by decide)
    refine g_lookup C (tgt := 48) (off := 42) dX7_compares_6 (by decide) (by rw [c_416245]; decide) (by decide) ?_
    refine g_iload_n C 1 dX7_compares_48 rfl rfl ?_
    refine g_aload_n C 0 dX7_compares_49 rfl rfl ?_
    refine g_getR C K hLx hkx f_7_18 hb_416237 dX7_compares_50 ?_
    refine g_iload_n C 2 dX7_compares_53 rfl rfl ?_
    obtain ⟨x_416247, hx_416247, rx_416247⟩ := ex_get (I := I) (a := b_416237) (j := a1.toNatClampNeg) (lo := (-2147483648)) (hi := 2147483647) hU hb_416237L (ro_a hb_416237k (by decide) hb_416237o hkx rfl) (rfl)
    refine h_iald C K hb_416237L hb_416237k (v := x_416247) (a1.toNatClampNeg) (rfl) (ix_0 ra1 (by decide)) (ix_lt ra1 (by decide) hb_416237n (by decide)) hx_416247 dX7_compares_54 ?_
    refine g_icmp_le C (tgt := 62) dX7_compares_55 (by decide) (fun h_416248 => ?_) (fun h_416248 => ?_)
    · skip
      refine g_iconst C (v := 0) dX7_compares_62 (by decide) ?_
      exact g_zret (ty := .boolean) (r := 0) B K rfl (rfl) ⟨rfl, rfl, rg_w rc_0 (by decide) (by decide)⟩ dX7_compares_63
    · skip
      have r_416249 := lt_l (hi := 2147483646) (nle h_416248) rx_416247 (rg_all a0) (by decide)
      have r_416250 := lt_r (lo := (-2147483647)) (nle h_416248) rx_416247 (rg_all a0) (by decide)
      refine g_iconst C (v := 1) dX7_compares_58 (by decide) ?_
      refine g_goto C (tgt := 63) dX7_compares_59 (by decide) ?_
      exact g_zret (ty := .boolean) (r := 1) B K rfl (rfl) ⟨rfl, rfl, rg_w rc_1 (by decide) (by decide)⟩ dX7_compares_63
  obtain ⟨q_4162511, q_4162512⟩ := rx_416238
  refine g_lookup C (tgt := 64) (off := 58) dX7_compares_6 (by decide) (by simp [Op.lookupswitch.offset, c_416239, c_416245]) (by decide) ?_
  refine g_iload_n C 1 dX7_compares_64 rfl rfl ?_
  refine g_aload_n C 0 dX7_compares_65 rfl rfl ?_
  refine g_getR C K hLx hkx f_7_18 hb_416237 dX7_compares_66 ?_
  refine g_iload_n C 2 dX7_compares_69 rfl rfl ?_
  obtain ⟨x_416252, hx_416252, rx_416252⟩ := ex_get (I := I) (a := b_416237) (j := a1.toNatClampNeg) (lo := (-2147483648)) (hi := 2147483647) hU hb_416237L (ro_a hb_416237k (by decide) hb_416237o hkx rfl) (rfl)
  refine h_iald C K hb_416237L hb_416237k (v := x_416252) (a1.toNatClampNeg) (rfl) (ix_0 ra1 (by decide)) (ix_lt ra1 (by decide) hb_416237n (by decide)) hx_416252 dX7_compares_70 ?_
  refine g_icmp_ne C (tgt := 78) dX7_compares_71 (by decide) (fun h_416253 => ?_) (fun h_416253 => ?_)
  · skip
    refine g_iconst C (v := 0) dX7_compares_78 (by decide) ?_
    exact g_zret (ty := .boolean) (r := 0) B K rfl (rfl) ⟨rfl, rfl, rg_w rc_0 (by decide) (by decide)⟩ dX7_compares_79
  · skip
    refine g_iconst C (v := 1) dX7_compares_74 (by decide) ?_
    refine g_goto C (tgt := 79) dX7_compares_75 (by decide) ?_
    exact g_zret (ty := .boolean) (r := 1) B K rfl (rfl) ⟨rfl, rfl, rg_w rc_1 (by decide) (by decide)⟩ dX7_compares_79
set_option maxRecDepth 100000 in
set_option maxHeartbeats 8000000 in
theorem c_X3_keep {l : Launch} {D : va_G} {cy : Nat → ClassId} {L : List Nat} {κ ln : Nat → Nat} {R : Nat → Nat → Option Nat} {I : Nat → Nat → Int32} {J : Nat → Nat → Int64} {ow : Nat → Nat × Nat} (W9 : ∀ a ∈ L, Shp L κ ln R ow a) {x : Nat} (hLx : x ∈ L) (hkx : κ x = 3) {a0 : Nat} (hLa0 : a0 ∈ L) (hka0 : κ a0 = 8) {a1 : Nat} (hLa1 : a1 ∈ L) (hka1 : κ a1 = 1) {a2 : Nat} (hLa2 : a2 ∈ L) (hka2 : κ a2 = 7) (hU : Uv L κ ow I) : CtV l yX3_keep cX3_keep 4 none { frames := 2, cells := 0, slots := 0, locals := 81 } D cy L κ ln R I J [.ref x, .ref a0, .ref a1, .ref a2] (fun I2 J2 => Uv L κ ow I2 ∧ Fq L κ ow [107, 108, 109, 110, 111, 112, 303, 704, 705, 805, 806, 807, 808, 16100, 16200, 16300, 16400, 16500, 16600, 52000, 52100, 52200, 58100, 58200, 58400] I I2 ∧ Fq L κ ow [58000, 58300] J J2) := by
  refine CtV.of (by decide +kernel) (Nat.le_of_ble_eq_true rfl) ?_
  intro p e s m below meth c B K
  have C := B.1
  have hF : Fq L κ ow [107, 108, 109, 110, 111, 112, 303, 704, 705, 805, 806, 807, 808, 16100, 16200, 16300, 16400, 16500, 16600, 52000, 52100, 52200, 58100, 58200, 58400] I I := fq_rf
  have hG : Fq L κ ow [58000, 58300] J J := fq_rf
  obtain ⟨b_416302, hb_416302, hb_416302L, hb_416302k⟩ := shp_o (W9 x hLx) hkx 1 1 rfl (by decide)
  obtain ⟨b_416303, hb_416303, hb_416303L, hb_416303k⟩ := shp_o (W9 x hLx) hkx 0 8 rfl (by decide)
  obtain ⟨b_416304, hb_416304, hb_416304L, hb_416304k⟩ := shp_o (W9 x hLx) hkx 2 7 rfl (by decide)
  refine g_lo (is := [0, 1, 2, 3]) (lo2 := [(0, .ref x), (1, .ref a0), (2, .ref a1), (3, .ref a2)]) rfl ?_
  refine g_aload_n C 0 dX3_keep_0 rfl rfl ?_
  refine g_getR C K hLx hkx f_3_10 hb_416303 dX3_keep_1 ?_
  refine g_aload_n C 1 dX3_keep_4 rfl rfl ?_
  refine g_callVV C K (c_X8_become W9 hb_416303L hb_416303k hLa0 hka0  hU) hb_416303L hb_416303k (by decide) rfl v_3_36 rfl ⟨rfl, rfl⟩ ⟨Nat.le_of_ble_eq_true rfl, Nat.le_of_ble_eq_true rfl⟩ (Nat.le_of_ble_eq_true rfl) ⟨Nat.le_of_ble_eq_true rfl, Nat.le_of_ble_eq_true rfl⟩ dX3_keep_5 rfl (st := []) (fun I_416306 J_416307 h_416308 => ?_)
  obtain ⟨hUI_416306, hFI_416306, hGJ_416307⟩ := h_416308
  have hF_416309 := fq_tr hF hFI_416306 (by decide)
  have hG_416310 := fq_tr hG hGJ_416307 (by decide)
  refine g_aload_n C 0 dX3_keep_8 rfl rfl ?_
  refine g_getR C K hLx hkx f_3_21 hb_416302 dX3_keep_9 ?_
  refine g_aload_n C 2 dX3_keep_12 rfl rfl ?_
  refine g_callVV C K (c_X1_become W9 hb_416302L hb_416302k hLa1 hka1  hUI_416306) hb_416302L hb_416302k (by decide) rfl v_3_39 rfl ⟨rfl, rfl⟩ ⟨Nat.le_of_ble_eq_true rfl, Nat.le_of_ble_eq_true rfl⟩ (Nat.le_of_ble_eq_true rfl) ⟨Nat.le_of_ble_eq_true rfl, Nat.le_of_ble_eq_true rfl⟩ dX3_keep_13 rfl (st := []) (fun I_416312 J_416313 h_416314 => ?_)
  obtain ⟨hUI_416312, hFI_416312, hGJ_416313⟩ := h_416314
  have hF_416315 := fq_tr hF_416309 hFI_416312 (by decide)
  have hG_416316 := fq_tr hG_416310 hGJ_416313 (by decide)
  refine g_aload_n C 0 dX3_keep_16 rfl rfl ?_
  refine g_getR C K hLx hkx f_3_28 hb_416304 dX3_keep_17 ?_
  refine g_aload_n C 3 dX3_keep_20 rfl rfl ?_
  refine g_callVV C K (c_X7_become W9 hb_416304L hb_416304k hLa2 hka2  hUI_416312) hb_416304L hb_416304k (by decide) rfl v_3_42 rfl ⟨rfl, rfl⟩ ⟨Nat.le_of_ble_eq_true rfl, Nat.le_of_ble_eq_true rfl⟩ (Nat.le_of_ble_eq_true rfl) ⟨Nat.le_of_ble_eq_true rfl, Nat.le_of_ble_eq_true rfl⟩ dX3_keep_21 rfl (st := []) (fun I_416318 J_416319 h_416320 => ?_)
  obtain ⟨hUI_416318, hFI_416318, hGJ_416319⟩ := h_416320
  have hF_416321 := fq_tr hF_416315 hFI_416318 (by decide)
  have hG_416322 := fq_tr hG_416316 hGJ_416319 (by decide)
  refine g_aload_n C 0 dX3_keep_24 rfl rfl ?_
  refine g_iconst C (v := 1) dX3_keep_25 (by decide) ?_
  refine h_putZ C K hLx hkx f_3_32 p_3_3 (rg_bool (rg_w rc_1 (by decide) (by decide))) dX3_keep_26 (fun I_416323 hI_416323 => ?_)
  have hU_416324 := uv_put hUI_416318 hI_416323 (ro_o hkx (by decide)) (lo := 0) (hi := 1) rfl (rg_w rc_1 (by decide) (by decide))
  have hF_416325 := fq_puto hF_416321 hI_416323 hkx (by decide) (by decide)
  exact g_vret B K rfl ⟨hU_416324, hF_416325, hG_416322⟩ dX3_keep_29
set_option maxRecDepth 100000 in
set_option maxHeartbeats 8000000 in
theorem c_X11_image {l : Launch} {D : va_G} {cy : Nat → ClassId} {L : List Nat} {κ ln : Nat → Nat} {R : Nat → Nat → Option Nat} {I : Nat → Nat → Int32} {J : Nat → Nat → Int64} {ow : Nat → Nat × Nat} (W9 : ∀ a ∈ L, Shp L κ ln R ow a) {x : Nat} (hLx : x ∈ L) (hkx : κ x = 11) (a0 : Int32) (hU : Uv L κ ow I) : CtI l yX11_image cX11_image 2 (some .boolean) { frames := 3, cells := 0, slots := 0, locals := 104 } D cy L κ ln R I J [.ref x, .int a0] (fun r I2 J2 => Uv L κ ow I2 ∧ Fq L κ ow [107, 108, 109, 110, 111, 112, 303, 704, 705, 805, 806, 807, 808, 16100, 16200, 16300, 16400, 16500, 16600, 52000, 52100, 52200, 58100, 58200, 58400] I I2 ∧ Fq L κ ow [58000, 58300] J J2 ∧ Rg 0 1 r) := by
  refine CtI.of (by decide +kernel) (Nat.le_of_ble_eq_true rfl) ?_
  intro p e s m below meth c B K
  have C := B.1
  have hF : Fq L κ ow [107, 108, 109, 110, 111, 112, 303, 704, 705, 805, 806, 807, 808, 16100, 16200, 16300, 16400, 16500, 16600, 52000, 52100, 52200, 58100, 58200, 58400] I I := fq_rf
  have hG : Fq L κ ow [58000, 58300] J J := fq_rf
  obtain ⟨b_416360, hb_416360, hb_416360L, hb_416360k⟩ := shp_o (W9 x hLx) hkx 1 8 rfl (by decide)
  obtain ⟨b_416361, hb_416361, hb_416361L, hb_416361k⟩ := shp_o (W9 x hLx) hkx 7 7 rfl (by decide)
  obtain ⟨b_416362, hb_416362, hb_416362L, hb_416362k, hb_416362n, hb_416362o⟩ := shp_a (W9 x hLx) hkx 12 18 2 rfl (by decide)
  obtain ⟨b_416363, hb_416363, hb_416363L, hb_416363k⟩ := shp_o (W9 x hLx) hkx 2 1 rfl (by decide)
  refine g_lo (is := [0, 1]) (lo2 := [(0, .ref x), (1, .int a0)]) rfl ?_
  refine g_iload_n C 1 dX11_image_0 rfl rfl ?_
  refine g_if_lt C (tgt := 9) dX11_image_1 (by decide) (fun h_416364 => ?_) (fun h_416364 => ?_)
  · skip
    have r_416365 := lt_l (hi := (-1)) (h_416364) (rg_all a0) rc_0 (by decide)
    refine g_iconst C (v := 0) dX11_image_9 (by decide) ?_
    exact g_zret (ty := .boolean) (r := 0) B K rfl (rfl) ⟨hU, hF, hG, rg_w rc_0 (by decide) (by decide)⟩ dX11_image_10
  · skip
    have r_416366 := le_r (nlt h_416364) rc_0 (rg_all a0)
    refine g_iload_n C 1 dX11_image_4 rfl rfl ?_
    refine g_iconst C (v := 2) dX11_image_5 (by decide) ?_
    refine g_icmp_lt C (tgt := 11) dX11_image_6 (by decide) (fun h_416367 => ?_) (fun h_416367 => ?_)
    · skip
      have r_416368 := lt_l (hi := 1) (h_416367) r_416366 rc_2 (by decide)
      refine g_aload_n C 0 dX11_image_11 rfl rfl ?_
      refine g_getR C K hLx hkx f_11_89 hb_416362 dX11_image_12 ?_
      refine g_iload_n C 1 dX11_image_15 rfl rfl ?_
      obtain ⟨b_416369, hb_416369, hb_416369L, hb_416369k⟩ := (W9 b_416362 hb_416362L).2.2 hb_416362k (a0.toNatClampNeg) (ix_lt r_416368 (by decide) hb_416362n (by decide))
      refine h_aaldI C K hb_416362L hb_416362k (a0.toNatClampNeg) (rfl) (ix_0 r_416368 (by decide)) (ix_lt r_416368 (by decide) hb_416362n (by decide)) hb_416369 dX11_image_16 ?_
      refine g_aload_n C 0 dX11_image_17 rfl rfl ?_
      refine g_getR C K hLx hkx f_11_19 hb_416360 dX11_image_18 ?_
      refine g_aload_n C 0 dX11_image_21 rfl rfl ?_
      refine g_getR C K hLx hkx f_11_28 hb_416363 dX11_image_22 ?_
      refine g_aload_n C 0 dX11_image_25 rfl rfl ?_
      refine g_getR C K hLx hkx f_11_59 hb_416361 dX11_image_26 ?_
      refine g_callVV C K (c_X3_keep W9 hb_416369L hb_416369k hb_416360L hb_416360k hb_416363L hb_416363k hb_416361L hb_416361k  hU) hb_416369L hb_416369k (by decide) rfl v_11_379 rfl ⟨rfl, rfl⟩ ⟨Nat.le_of_ble_eq_true rfl, Nat.le_of_ble_eq_true rfl⟩ (Nat.le_of_ble_eq_true rfl) ⟨Nat.le_of_ble_eq_true rfl, Nat.le_of_ble_eq_true rfl⟩ dX11_image_29 rfl (st := []) (fun I_416371 J_416372 h_416373 => ?_)
      obtain ⟨hUI_416371, hFI_416371, hGJ_416372⟩ := h_416373
      have hF_416374 := fq_tr hF hFI_416371 (by decide)
      have hG_416375 := fq_tr hG hGJ_416372 (by decide)
      refine g_iconst C (v := 1) dX11_image_32 (by decide) ?_
      exact g_zret (ty := .boolean) (r := 1) B K rfl (rfl) ⟨hUI_416371, hF_416374, hG_416375, rg_w rc_1 (by decide) (by decide)⟩ dX11_image_33
    · skip
      have r_416376 := le_r (nlt h_416367) rc_2 r_416366
      refine g_iconst C (v := 0) dX11_image_9 (by decide) ?_
      exact g_zret (ty := .boolean) (r := 0) B K rfl (rfl) ⟨hU, hF, hG, rg_w rc_0 (by decide) (by decide)⟩ dX11_image_10
set_option maxRecDepth 100000 in
set_option maxHeartbeats 8000000 in
theorem c_X11_restore {l : Launch} {D : va_G} {cy : Nat → ClassId} {L : List Nat} {κ ln : Nat → Nat} {R : Nat → Nat → Option Nat} {I : Nat → Nat → Int32} {J : Nat → Nat → Int64} {ow : Nat → Nat × Nat} (W9 : ∀ a ∈ L, Shp L κ ln R ow a) {x : Nat} (hLx : x ∈ L) (hkx : κ x = 11) (a0 : Int32) (hU : Uv L κ ow I) : CtI l yX11_restore cX11_restore 2 (some .boolean) { frames := 2, cells := 0, slots := 0, locals := 81 } D cy L κ ln R I J [.ref x, .int a0] (fun r I2 J2 => Uv L κ ow I2 ∧ Fq L κ ow [107, 108, 109, 110, 111, 112, 501, 704, 705, 805, 806, 807, 808, 16100, 16200, 16300, 16400, 16500, 16600, 52000, 52100, 52200, 58100, 58200, 58400] I I2 ∧ Fq L κ ow [58000, 58300] J J2 ∧ Rg 0 1 r) := by
  refine CtI.of (by decide +kernel) (Nat.le_of_ble_eq_true rfl) ?_
  intro p e s m below meth c B K
  have C := B.1
  have hF : Fq L κ ow [107, 108, 109, 110, 111, 112, 501, 704, 705, 805, 806, 807, 808, 16100, 16200, 16300, 16400, 16500, 16600, 52000, 52100, 52200, 58100, 58200, 58400] I I := fq_rf
  have hG : Fq L κ ow [58000, 58300] J J := fq_rf
  obtain ⟨b_416471, hb_416471, hb_416471L, hb_416471k⟩ := shp_o (W9 x hLx) hkx 4 5 rfl (by decide)
  obtain ⟨b_416472, hb_416472, hb_416472L, hb_416472k, hb_416472n, hb_416472o⟩ := shp_a (W9 x hLx) hkx 12 18 2 rfl (by decide)
  obtain ⟨b_416473, hb_416473, hb_416473L, hb_416473k⟩ := shp_o (W9 x hLx) hkx 2 1 rfl (by decide)
  obtain ⟨b_416474, hb_416474, hb_416474L, hb_416474k⟩ := shp_o (W9 x hLx) hkx 1 8 rfl (by decide)
  obtain ⟨b_416475, hb_416475, hb_416475L, hb_416475k⟩ := shp_o (W9 x hLx) hkx 7 7 rfl (by decide)
  refine g_lo (is := [0, 1]) (lo2 := [(0, .ref x), (1, .int a0)]) rfl ?_
  refine g_iload_n C 1 dX11_restore_0 rfl rfl ?_
  refine g_if_lt C (tgt := 21) dX11_restore_1 (by decide) (fun h_416476 => ?_) (fun h_416476 => ?_)
  · skip
    have r_416477 := lt_l (hi := (-1)) (h_416476) (rg_all a0) rc_0 (by decide)
    refine g_iconst C (v := 0) dX11_restore_21 (by decide) ?_
    exact g_zret (ty := .boolean) (r := 0) B K rfl (rfl) ⟨hU, hF, hG, rg_w rc_0 (by decide) (by decide)⟩ dX11_restore_22
  · skip
    have r_416478 := le_r (nlt h_416476) rc_0 (rg_all a0)
    refine g_iload_n C 1 dX11_restore_4 rfl rfl ?_
    refine g_iconst C (v := 2) dX11_restore_5 (by decide) ?_
    refine g_icmp_ge C (tgt := 21) dX11_restore_6 (by decide) (fun h_416479 => ?_) (fun h_416479 => ?_)
    · skip
      have r_416480 := le_r (h_416479) rc_2 r_416478
      refine g_iconst C (v := 0) dX11_restore_21 (by decide) ?_
      exact g_zret (ty := .boolean) (r := 0) B K rfl (rfl) ⟨hU, hF, hG, rg_w rc_0 (by decide) (by decide)⟩ dX11_restore_22
    · skip
      have r_416481 := lt_l (hi := 1) (nle h_416479) r_416478 rc_2 (by decide)
      refine g_aload_n C 0 dX11_restore_9 rfl rfl ?_
      refine g_getR C K hLx hkx f_11_89 hb_416472 dX11_restore_10 ?_
      refine g_iload_n C 1 dX11_restore_13 rfl rfl ?_
      obtain ⟨b_416482, hb_416482, hb_416482L, hb_416482k⟩ := (W9 b_416472 hb_416472L).2.2 hb_416472k (a0.toNatClampNeg) (ix_lt r_416481 (by decide) hb_416472n (by decide))
      refine h_aaldI C K hb_416472L hb_416472k (a0.toNatClampNeg) (rfl) (ix_0 r_416481 (by decide)) (ix_lt r_416481 (by decide) hb_416472n (by decide)) hb_416482 dX11_restore_14 ?_
      obtain ⟨x_416483, hx_416483, rx_416483⟩ := ex_get (I := I) (a := b_416482) (j := 3) (lo := 0) (hi := 1) hU hb_416482L (ro_o hb_416482k (by decide)) rfl
      refine g_getI C K hb_416482L hb_416482k f_11_383 (v := x_416483) hx_416483 dX11_restore_15 ?_
      refine g_if_ne C (tgt := 23) dX11_restore_18 (by decide) (fun h_416484 => ?_) (fun h_416484 => ?_)
      · skip
        have n_416485 : ¬ x_416483 = 0 := h_416484
        have r_416486 := ne_lo (lo := 1) n_416485 rx_416483 rc_0 rfl (by decide)
        refine g_aload_n C 0 dX11_restore_23 rfl rfl ?_
        refine g_getR C K hLx hkx f_11_19 hb_416474 dX11_restore_24 ?_
        refine g_aload_n C 0 dX11_restore_27 rfl rfl ?_
        refine g_getR C K hLx hkx f_11_89 hb_416472 dX11_restore_28 ?_
        refine g_iload_n C 1 dX11_restore_31 rfl rfl ?_
        obtain ⟨b_416487, hb_416487, hb_416487L, hb_416487k⟩ := (W9 b_416472 hb_416472L).2.2 hb_416472k (a0.toNatClampNeg) (ix_lt r_416481 (by decide) hb_416472n (by decide))
        refine h_aaldI C K hb_416472L hb_416472k (a0.toNatClampNeg) (rfl) (ix_0 r_416481 (by decide)) (ix_lt r_416481 (by decide) hb_416472n (by decide)) hb_416487 dX11_restore_32 ?_
        obtain ⟨b_416488, hb_416488, hb_416488L, hb_416488k⟩ := shp_o (W9 b_416487 hb_416487L) hb_416487k 0 8 rfl (by decide)
        refine g_getR C K hb_416487L hb_416487k f_11_386 hb_416488 dX11_restore_33 ?_
        refine g_callVV C K (c_X8_become W9 hb_416474L hb_416474k hb_416488L hb_416488k  hU) hb_416474L hb_416474k (by decide) rfl v_11_120 rfl ⟨rfl, rfl⟩ ⟨Nat.le_of_ble_eq_true rfl, Nat.le_of_ble_eq_true rfl⟩ (Nat.le_of_ble_eq_true rfl) ⟨Nat.le_of_ble_eq_true rfl, Nat.le_of_ble_eq_true rfl⟩ dX11_restore_36 rfl (st := []) (fun I_416490 J_416491 h_416492 => ?_)
        obtain ⟨hUI_416490, hFI_416490, hGJ_416491⟩ := h_416492
        have hF_416493 := fq_tr hF hFI_416490 (by decide)
        have hG_416494 := fq_tr hG hGJ_416491 (by decide)
        refine g_aload_n C 0 dX11_restore_39 rfl rfl ?_
        refine g_getR C K hLx hkx f_11_28 hb_416473 dX11_restore_40 ?_
        refine g_aload_n C 0 dX11_restore_43 rfl rfl ?_
        refine g_getR C K hLx hkx f_11_89 hb_416472 dX11_restore_44 ?_
        refine g_iload_n C 1 dX11_restore_47 rfl rfl ?_
        obtain ⟨b_416495, hb_416495, hb_416495L, hb_416495k⟩ := (W9 b_416472 hb_416472L).2.2 hb_416472k (a0.toNatClampNeg) (ix_lt r_416481 (by decide) hb_416472n (by decide))
        refine h_aaldI C K hb_416472L hb_416472k (a0.toNatClampNeg) (rfl) (ix_0 r_416481 (by decide)) (ix_lt r_416481 (by decide) hb_416472n (by decide)) hb_416495 dX11_restore_48 ?_
        obtain ⟨b_416496, hb_416496, hb_416496L, hb_416496k⟩ := shp_o (W9 b_416495 hb_416495L) hb_416495k 1 1 rfl (by decide)
        refine g_getR C K hb_416495L hb_416495k f_11_387 hb_416496 dX11_restore_49 ?_
        refine g_callVV C K (c_X1_become W9 hb_416473L hb_416473k hb_416496L hb_416496k  hUI_416490) hb_416473L hb_416473k (by decide) rfl v_11_126 rfl ⟨rfl, rfl⟩ ⟨Nat.le_of_ble_eq_true rfl, Nat.le_of_ble_eq_true rfl⟩ (Nat.le_of_ble_eq_true rfl) ⟨Nat.le_of_ble_eq_true rfl, Nat.le_of_ble_eq_true rfl⟩ dX11_restore_52 rfl (st := []) (fun I_416498 J_416499 h_416500 => ?_)
        obtain ⟨hUI_416498, hFI_416498, hGJ_416499⟩ := h_416500
        have hF_416501 := fq_tr hF_416493 hFI_416498 (by decide)
        have hG_416502 := fq_tr hG_416494 hGJ_416499 (by decide)
        refine g_aload_n C 0 dX11_restore_55 rfl rfl ?_
        refine g_getR C K hLx hkx f_11_59 hb_416475 dX11_restore_56 ?_
        refine g_aload_n C 0 dX11_restore_59 rfl rfl ?_
        refine g_getR C K hLx hkx f_11_89 hb_416472 dX11_restore_60 ?_
        refine g_iload_n C 1 dX11_restore_63 rfl rfl ?_
        obtain ⟨b_416503, hb_416503, hb_416503L, hb_416503k⟩ := (W9 b_416472 hb_416472L).2.2 hb_416472k (a0.toNatClampNeg) (ix_lt r_416481 (by decide) hb_416472n (by decide))
        refine h_aaldI C K hb_416472L hb_416472k (a0.toNatClampNeg) (rfl) (ix_0 r_416481 (by decide)) (ix_lt r_416481 (by decide) hb_416472n (by decide)) hb_416503 dX11_restore_64 ?_
        obtain ⟨b_416504, hb_416504, hb_416504L, hb_416504k⟩ := shp_o (W9 b_416503 hb_416503L) hb_416503k 2 7 rfl (by decide)
        refine g_getR C K hb_416503L hb_416503k f_11_388 hb_416504 dX11_restore_65 ?_
        refine g_callVV C K (c_X7_become W9 hb_416475L hb_416475k hb_416504L hb_416504k  hUI_416498) hb_416475L hb_416475k (by decide) rfl v_11_365 rfl ⟨rfl, rfl⟩ ⟨Nat.le_of_ble_eq_true rfl, Nat.le_of_ble_eq_true rfl⟩ (Nat.le_of_ble_eq_true rfl) ⟨Nat.le_of_ble_eq_true rfl, Nat.le_of_ble_eq_true rfl⟩ dX11_restore_68 rfl (st := []) (fun I_416506 J_416507 h_416508 => ?_)
        obtain ⟨hUI_416506, hFI_416506, hGJ_416507⟩ := h_416508
        have hF_416509 := fq_tr hF_416501 hFI_416506 (by decide)
        have hG_416510 := fq_tr hG_416502 hGJ_416507 (by decide)
        refine g_aload_n C 0 dX11_restore_71 rfl rfl ?_
        refine g_getR C K hLx hkx f_11_38 hb_416471 dX11_restore_72 ?_
        refine g_callVV C K (c_X5_forget W9 hb_416471L hb_416471k   hUI_416506) hb_416471L hb_416471k (by decide) rfl v_11_132 rfl ⟨rfl, rfl⟩ ⟨Nat.le_of_ble_eq_true rfl, Nat.le_of_ble_eq_true rfl⟩ (Nat.le_of_ble_eq_true rfl) ⟨Nat.le_of_ble_eq_true rfl, Nat.le_of_ble_eq_true rfl⟩ dX11_restore_75 rfl (st := []) (fun I_416512 J_416513 h_416514 => ?_)
        obtain ⟨hUI_416512, hFI_416512, hGJ_416513⟩ := h_416514
        have hF_416515 := fq_tr hF_416509 hFI_416512 (by decide)
        have hG_416516 := fq_tr hG_416510 hGJ_416513 (by decide)
        refine g_iconst C (v := 1) dX11_restore_78 (by decide) ?_
        exact g_zret (ty := .boolean) (r := 1) B K rfl (rfl) ⟨hUI_416512, hF_416515, hG_416516, rg_w rc_1 (by decide) (by decide)⟩ dX11_restore_79
      · skip
        have r_416517 := (⟨(rx_416483).1, (eq_rg (h_416484) rc_0).2⟩ : Rg 0 0 x_416483)
        refine g_iconst C (v := 0) dX11_restore_21 (by decide) ?_
        exact g_zret (ty := .boolean) (r := 0) B K rfl (rfl) ⟨hU, hF, hG, rg_w rc_0 (by decide) (by decide)⟩ dX11_restore_22
