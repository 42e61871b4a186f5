theorem dX3_init_0 : decode cX3_init 0 = .ok (.aload_n 0, 1) := by decide +kernel
theorem dX3_init_1 : decode cX3_init 1 = .ok (.invokespecial 1, 3) := by decide +kernel
theorem dX3_init_4 : decode cX3_init 4 = .ok (.aload_n 0, 1) := by decide +kernel
theorem dX3_init_5 : decode cX3_init 5 = .ok (.new 7, 3) := by decide +kernel
theorem dX3_init_8 : decode cX3_init 8 = .ok (.dup, 1) := by decide +kernel
theorem dX3_init_9 : decode cX3_init 9 = .ok (.invokespecial 9, 3) := by decide +kernel
theorem dX3_init_12 : decode cX3_init 12 = .ok (.putfield 10, 3) := by decide +kernel
theorem dX3_init_15 : decode cX3_init 15 = .ok (.aload_n 0, 1) := by decide +kernel
theorem dX3_init_16 : decode cX3_init 16 = .ok (.new 16, 3) := by decide +kernel
theorem dX3_init_19 : decode cX3_init 19 = .ok (.dup, 1) := by decide +kernel
theorem dX3_init_20 : decode cX3_init 20 = .ok (.aload_n 0, 1) := by decide +kernel
theorem dX3_init_21 : decode cX3_init 21 = .ok (.getfield 10, 3) := by decide +kernel
theorem dX3_init_24 : decode cX3_init 24 = .ok (.invokespecial 18, 3) := by decide +kernel
theorem dX3_init_27 : decode cX3_init 27 = .ok (.putfield 21, 3) := by decide +kernel
theorem dX3_init_30 : decode cX3_init 30 = .ok (.aload_n 0, 1) := by decide +kernel
theorem dX3_init_31 : decode cX3_init 31 = .ok (.new 25, 3) := by decide +kernel
theorem dX3_init_34 : decode cX3_init 34 = .ok (.dup, 1) := by decide +kernel
theorem dX3_init_35 : decode cX3_init 35 = .ok (.invokespecial 27, 3) := by decide +kernel
theorem dX3_init_38 : decode cX3_init 38 = .ok (.putfield 28, 3) := by decide +kernel
theorem dX3_init_41 : decode cX3_init 41 = .ok (.aload_n 0, 1) := by decide +kernel
theorem dX3_init_42 : decode cX3_init 42 = .ok (.iconst 0, 1) := by decide +kernel
theorem dX3_init_43 : decode cX3_init 43 = .ok (.putfield 32, 3) := by decide +kernel
theorem dX3_init_46 : decode cX3_init 46 = .ok (.return_, 1) := by decide +kernel
theorem dX4_init_0 : decode cX4_init 0 = .ok (.aload_n 0, 1) := by decide +kernel
theorem dX4_init_1 : decode cX4_init 1 = .ok (.invokespecial 3, 3) := by decide +kernel
theorem dX4_init_4 : decode cX4_init 4 = .ok (.aload_n 0, 1) := by decide +kernel
theorem dX4_init_5 : decode cX4_init 5 = .ok (.bipush 8, 2) := by decide +kernel
theorem dX4_init_7 : decode cX4_init 7 = .ok (.anewarray 9, 3) := by decide +kernel
theorem dX4_init_10 : decode cX4_init 10 = .ok (.putfield 11, 3) := by decide +kernel
theorem dX4_init_13 : decode cX4_init 13 = .ok (.aload_n 0, 1) := by decide +kernel
theorem dX4_init_14 : decode cX4_init 14 = .ok (.bipush 7, 2) := by decide +kernel
theorem dX4_init_16 : decode cX4_init 16 = .ok (.newarray .int, 2) := by decide +kernel
theorem dX4_init_18 : decode cX4_init 18 = .ok (.putfield 17, 3) := by decide +kernel
theorem dX4_init_21 : decode cX4_init 21 = .ok (.aload_n 0, 1) := by decide +kernel
theorem dX4_init_22 : decode cX4_init 22 = .ok (.bipush 7, 2) := by decide +kernel
theorem dX4_init_24 : decode cX4_init 24 = .ok (.newarray .int, 2) := by decide +kernel
theorem dX4_init_26 : decode cX4_init 26 = .ok (.putfield 21, 3) := by decide +kernel
theorem dX4_init_29 : decode cX4_init 29 = .ok (.aload_n 0, 1) := by decide +kernel
theorem dX4_init_30 : decode cX4_init 30 = .ok (.iconst 0, 1) := by decide +kernel
theorem dX4_init_31 : decode cX4_init 31 = .ok (.putfield 24, 3) := by decide +kernel
theorem dX4_init_34 : decode cX4_init 34 = .ok (.aload_n 0, 1) := by decide +kernel
theorem dX4_init_35 : decode cX4_init 35 = .ok (.iconst 0, 1) := by decide +kernel
theorem dX4_init_36 : decode cX4_init 36 = .ok (.putfield 28, 3) := by decide +kernel
theorem dX4_init_39 : decode cX4_init 39 = .ok (.iconst 0, 1) := by decide +kernel
theorem dX4_init_40 : decode cX4_init 40 = .ok (.istore_n 2, 1) := by decide +kernel
theorem dX4_init_41 : decode cX4_init 41 = .ok (.iload_n 2, 1) := by decide +kernel
theorem dX4_init_42 : decode cX4_init 42 = .ok (.bipush 7, 2) := by decide +kernel
theorem dX4_init_44 : decode cX4_init 44 = .ok (.if_icmp .gt 23, 3) := by decide +kernel
theorem dX4_init_47 : decode cX4_init 47 = .ok (.aload_n 0, 1) := by decide +kernel
theorem dX4_init_48 : decode cX4_init 48 = .ok (.getfield 11, 3) := by decide +kernel
theorem dX4_init_51 : decode cX4_init 51 = .ok (.iload_n 2, 1) := by decide +kernel
theorem dX4_init_52 : decode cX4_init 52 = .ok (.new 9, 3) := by decide +kernel
theorem dX4_init_55 : decode cX4_init 55 = .ok (.dup, 1) := by decide +kernel
theorem dX4_init_56 : decode cX4_init 56 = .ok (.aload_n 1, 1) := by decide +kernel
theorem dX4_init_57 : decode cX4_init 57 = .ok (.invokespecial 31, 3) := by decide +kernel
theorem dX4_init_60 : decode cX4_init 60 = .ok (.aastore, 1) := by decide +kernel
theorem dX4_init_61 : decode cX4_init 61 = .ok (.iinc 2 1, 3) := by decide +kernel
theorem dX4_init_64 : decode cX4_init 64 = .ok (.goto (-23), 3) := by decide +kernel
theorem dX4_init_67 : decode cX4_init 67 = .ok (.return_, 1) := by decide +kernel
theorem dX5_init_0 : decode cX5_init 0 = .ok (.aload_n 0, 1) := by decide +kernel
theorem dX5_init_1 : decode cX5_init 1 = .ok (.invokespecial 3, 3) := by decide +kernel
theorem dX5_init_4 : decode cX5_init 4 = .ok (.aload_n 0, 1) := by decide +kernel
theorem dX5_init_5 : decode cX5_init 5 = .ok (.bipush 9, 2) := by decide +kernel
theorem dX5_init_7 : decode cX5_init 7 = .ok (.anewarray 11, 3) := by decide +kernel
theorem dX5_init_10 : decode cX5_init 10 = .ok (.putfield 13, 3) := by decide +kernel
theorem dX5_init_13 : decode cX5_init 13 = .ok (.aload_n 0, 1) := by decide +kernel
theorem dX5_init_14 : decode cX5_init 14 = .ok (.iconst 0, 1) := by decide +kernel
theorem dX5_init_15 : decode cX5_init 15 = .ok (.putfield 17, 3) := by decide +kernel
theorem dX5_init_18 : decode cX5_init 18 = .ok (.aload_n 0, 1) := by decide +kernel
theorem dX5_init_19 : decode cX5_init 19 = .ok (.iconst 0, 1) := by decide +kernel
theorem dX5_init_20 : decode cX5_init 20 = .ok (.putfield 21, 3) := by decide +kernel
theorem dX5_init_23 : decode cX5_init 23 = .ok (.iconst 0, 1) := by decide +kernel
theorem dX5_init_24 : decode cX5_init 24 = .ok (.istore_n 2, 1) := by decide +kernel
theorem dX5_init_25 : decode cX5_init 25 = .ok (.iload_n 2, 1) := by decide +kernel
theorem dX5_init_26 : decode cX5_init 26 = .ok (.bipush 9, 2) := by decide +kernel
theorem dX5_init_28 : decode cX5_init 28 = .ok (.if_icmp .ge 23, 3) := by decide +kernel
theorem dX5_init_31 : decode cX5_init 31 = .ok (.aload_n 0, 1) := by decide +kernel
theorem dX5_init_32 : decode cX5_init 32 = .ok (.getfield 13, 3) := by decide +kernel
theorem dX5_init_35 : decode cX5_init 35 = .ok (.iload_n 2, 1) := by decide +kernel
theorem dX5_init_36 : decode cX5_init 36 = .ok (.new 11, 3) := by decide +kernel
theorem dX5_init_39 : decode cX5_init 39 = .ok (.dup, 1) := by decide +kernel
theorem dX5_init_40 : decode cX5_init 40 = .ok (.aload_n 1, 1) := by decide +kernel
theorem dX5_init_41 : decode cX5_init 41 = .ok (.invokespecial 24, 3) := by decide +kernel
theorem dX5_init_44 : decode cX5_init 44 = .ok (.aastore, 1) := by decide +kernel
theorem dX5_init_45 : decode cX5_init 45 = .ok (.iinc 2 1, 3) := by decide +kernel
theorem dX5_init_48 : decode cX5_init 48 = .ok (.goto (-23), 3) := by decide +kernel
theorem dX5_init_51 : decode cX5_init 51 = .ok (.return_, 1) := by decide +kernel
theorem dX9_init_0 : decode cX9_init 0 = .ok (.aload_n 0, 1) := by decide +kernel
theorem dX9_init_1 : decode cX9_init 1 = .ok (.invokespecial 3, 3) := by decide +kernel
theorem dX9_init_4 : decode cX9_init 4 = .ok (.aload_n 0, 1) := by decide +kernel
theorem dX9_init_5 : decode cX9_init 5 = .ok (.new 9, 3) := by decide +kernel
theorem dX9_init_8 : decode cX9_init 8 = .ok (.dup, 1) := by decide +kernel
theorem dX9_init_9 : decode cX9_init 9 = .ok (.invokespecial 11, 3) := by decide +kernel
theorem dX9_init_12 : decode cX9_init 12 = .ok (.putfield 12, 3) := by decide +kernel
theorem dX9_init_15 : decode cX9_init 15 = .ok (.aload_n 0, 1) := by decide +kernel
theorem dX9_init_16 : decode cX9_init 16 = .ok (.new 18, 3) := by decide +kernel
theorem dX9_init_19 : decode cX9_init 19 = .ok (.dup, 1) := by decide +kernel
theorem dX9_init_20 : decode cX9_init 20 = .ok (.aload_n 0, 1) := by decide +kernel
theorem dX9_init_21 : decode cX9_init 21 = .ok (.getfield 12, 3) := by decide +kernel
theorem dX9_init_24 : decode cX9_init 24 = .ok (.invokespecial 20, 3) := by decide +kernel
theorem dX9_init_27 : decode cX9_init 27 = .ok (.putfield 23, 3) := by decide +kernel
theorem dX9_init_30 : decode cX9_init 30 = .ok (.aload_n 0, 1) := by decide +kernel
theorem dX9_init_31 : decode cX9_init 31 = .ok (.iconst 0, 1) := by decide +kernel
theorem dX9_init_32 : decode cX9_init 32 = .ok (.putfield 27, 3) := by decide +kernel
theorem dX9_init_35 : decode cX9_init 35 = .ok (.aload_n 0, 1) := by decide +kernel
theorem dX9_init_36 : decode cX9_init 36 = .ok (.iconst 0, 1) := by decide +kernel
theorem dX9_init_37 : decode cX9_init 37 = .ok (.putfield 31, 3) := by decide +kernel
theorem dX9_init_40 : decode cX9_init 40 = .ok (.return_, 1) := by decide +kernel
set_option maxRecDepth 100000 in
set_option maxHeartbeats 4000000 in
theorem i_9 {l : Launch} {D : va_G} {cy : Nat → ClassId} {L : List Nat} {κ ln : Nat → Nat} {R : Nat → Nat → Option Nat} {I : Nat → Nat → Int32} {J : Nat → Nat → Int64} {ow : Nat → Nat × Nat} {a : Nat} (ha : a ∈ L) (hk : κ a = 9) (hz : ∀ j, I a j = 0) : CtN l yX9_init cX9_init 1 { frames := 2, cells := 13, slots := 132, locals := 120 } 13 132 D cy L κ ln R I J En_ [.ref a] (Pi_ a L κ ln R ow I J) := by
  refine CtN.of (by decide +kernel) (Nat.le_of_ble_eq_true rfl) ?_
  intro p e s m below meth c B K hN
  have C := B.1
  have hin : meth.name = "<init>" := B.2.2.2
  have hA : ∀ q, s.heap.size ≤ q → AN_ L s.heap.size q := fun q h => Or.inr h
  refine g_lo (is := [0]) (lo2 := [(0, .ref a)]) rfl ?_
  refine g_aload_n C 0 dX9_init_0 rfl rfl ?_
  refine a_obj C oi_9_3 (Nat.le_of_ble_eq_true rfl) (Nat.le_of_ble_eq_true rfl) dX9_init_1 ?_
  refine g_aload_n C 0 dX9_init_4 rfl rfl ?_
  refine a_new (ow := ow) C K hA (a, 0) (by decide) rfl u_in8 tyX8 tyX8_ok cl_9_9 df_8 ⟨Nat.le_of_ble_eq_true rfl, Nat.le_of_ble_eq_true rfl⟩ dX9_init_5 (fun q1 L2 κ3 ln4 R5 I6 J7 ow8 hq9 K10 => ?_)
  refine g_dup C dX9_init_8 rfl ?_
  have hE11 := hq9.2.2.2.2.2.2.2.2
  refine a_initN C K10 hN hA (i_8 (ow := ow8) hq9.2.1 hq9.2.2.2.1 hq9.2.2.2.2.2.2.1 ) En_blind (fun _ _ U _ _ hW => hN.warm hW) jw_9_11 rfl ⟨rfl, rfl⟩ ⟨Nat.le_of_ble_eq_true rfl, Nat.le_of_ble_eq_true rfl⟩ (Nat.le_of_ble_eq_true rfl) ⟨Nat.le_of_ble_eq_true rfl, Nat.le_of_ble_eq_true rfl⟩ dX9_init_9 (st := [.ref q1, .ref a]) rfl (fun L12 κ13 ln14 R15 I16 J17 hp18 K19 => ?_)
  obtain ⟨ow21, x22, x23, x24, x25, x26⟩ := nq_pi hq9 hp18
  have md27 := (Md.rf : Md a L κ ln R ow I J L κ ln R ow I J).ex x22 (x23)
  have z28 : ∀ j, I16 a j = 0 := fun j => ((x22 a ha).2.2.2.2.1 j).trans (hz j)
  have hl29 := (x22 a ha).1
  have hk30 := ((x22 a ha).2.1).trans hk
  refine a_putR C K19 hl29 hk30 f_9_12 p_9_0 hin rfl rfl rfl dX9_init_12 (fun R31 hR32 => ?_)
  have md33 := md27.putR ha hR32
  have rf34 : R31 a 0 = some q1 := by rw [hR32]; exact u2_s
  have fa35 : Fa L12 κ13 ln14 R31 ow21 I16 a 0 8 0 := Fa.new hR32 x24 x25 (fun h => absurd h (by decide))
  have ofa35 : Oh L12 R31 ow21 a 0 := Oh.new hR32 x24 x26.2
  refine g_aload_n C 0 dX9_init_15 rfl rfl ?_
  refine a_new (ow := ow21) C K19 hA (a, 0) (by decide) rfl u_in1 tyX1 tyX1_ok cl_9_18 df_1 ⟨Nat.le_of_ble_eq_true rfl, Nat.le_of_ble_eq_true rfl⟩ dX9_init_16 (fun q36 L37 κ38 ln39 R40 I41 J42 ow43 hq44 K45 => ?_)
  refine g_dup C dX9_init_19 rfl ?_
  refine g_aload_n C 0 dX9_init_20 rfl rfl ?_
  refine g_getR C K45 (hq44.2.2.2.2.2.2.2.2 a hl29).1 (((hq44.2.2.2.2.2.2.2.2 a hl29).2.1).trans hk30) f_9_12 (b := q1) (((hq44.2.2.2.2.2.2.2.2 a hl29).2.2.2.2.2.1 0).trans rf34) dX9_init_21 ?_
  have hE46 := hq44.2.2.2.2.2.2.2.2
  refine a_init C K45 hA (i_1 (ow := ow43) hq44.2.1 hq44.2.2.2.1 hq44.2.2.2.2.2.2.1 (hE46 q1 x24).1 (((hE46 q1 x24).2.1).trans x25)) En_blind (fun _ _ U _ _ hW => hN.warm hW) iw_9_20 rfl ⟨rfl, rfl⟩ ⟨Nat.le_of_ble_eq_true rfl, Nat.le_of_ble_eq_true rfl⟩ (Nat.le_of_ble_eq_true rfl) ⟨Nat.le_of_ble_eq_true rfl, Nat.le_of_ble_eq_true rfl⟩ dX9_init_24 (st := [.ref q36, .ref a]) rfl (fun L47 κ48 ln49 R50 I51 J52 hp53 K54 => ?_)
  obtain ⟨ow56, x57, x58, x59, x60, x61⟩ := nq_pi hq44 hp53
  have md62 := md33.ex x57 (x58)
  have rf63 := ((x57 a hl29).2.2.2.2.2.1 0).trans rf34
  have fa64 := fa35.ex hl29 x57
  have ofa64 := ofa35.ex hl29 x57
  have z65 : ∀ j, I51 a j = 0 := fun j => ((x57 a hl29).2.2.2.2.1 j).trans (z28 j)
  have hl66 := (x57 a hl29).1
  have hk67 := ((x57 a hl29).2.1).trans hk30
  have hl68 := (x57 q1 x24).1
  have hk69 := ((x57 q1 x24).2.1).trans x25
  refine a_putR C K54 hl66 hk67 f_9_23 p_9_1 hin rfl rfl rfl dX9_init_27 (fun R70 hR71 => ?_)
  have md72 := md62.putR ha hR71
  have rf73 : R70 a 0 = some q1 := by rw [hR71, u2_j (by decide)]; exact rf63
  have fa74 := fa64.put hR71 (show 0 ≠ 1 by decide)
  have ofa74 := ofa64.put hR71 (show 0 ≠ 1 by decide)
  have fa75 : Fa L47 κ48 ln49 R70 ow56 I51 a 1 1 0 := Fa.new hR71 x59 x60 (fun h => absurd h (by decide))
  refine g_aload_n C 0 dX9_init_30 rfl rfl ?_
  refine g_iconst C (v := 0) dX9_init_31 (by decide) ?_
  refine h_putZ C K54 hl66 hk67 f_9_27 p_9_2 (Or.inl rfl) dX9_init_32 (fun I76 hI77 => ?_)
  have md78 := md72.putI ha hI77
  have z79 : ∀ j, I76 a j = 0 := fun j => by rw [hI77]; by_cases h : j = 2 <;> simp [u2_, h, z65]
  have fa80 := fa74.putI (I3 := I76)
  have ofa80 := ofa74
  have fa81 := fa75.putI (I3 := I76)
  refine g_aload_n C 0 dX9_init_35 rfl rfl ?_
  refine g_iconst C (v := 0) dX9_init_36 (by decide) ?_
  refine h_putZ C K54 hl66 hk67 f_9_31 p_9_3 (Or.inl rfl) dX9_init_37 (fun I82 hI83 => ?_)
  have md84 := md78.putI ha hI83
  have z85 : ∀ j, I82 a j = 0 := fun j => by rw [hI83]; by_cases h : j = 3 <;> simp [u2_, h, z79]
  have fa86 := fa80.putI (I3 := I82)
  have ofa86 := ofa80
  have fa87 := fa81.putI (I3 := I82)
  refine a_wide (k := 13) (n := 132) (Nat.le_of_ble_eq_true rfl) (Nat.le_of_ble_eq_true rfl) ?_
  refine a_vret B K54 ⟨ow56, md84, ⟨fun k q hq h9 => ?_, fun h => absurd (hk67.symm.trans h) (by decide), fun h => absurd (hk67.symm.trans h) (by decide)⟩, fun j => ?_, fun h => absurd (hk67.symm.trans h) (by decide), fun k2 h2 => own_9 hk67 h2 ofa86⟩ dX9_init_40
  · rw [hk67] at hq
    match k, hq with
    | 0, hq => obtain rfl := Option.some.inj (show some (8, 0) = some q from hq); exact fa86
    | 1, hq => obtain rfl := Option.some.inj (show some (1, 0) = some q from hq); exact fa87
    | k + 2, hq => exact absurd hq (by simp [rt_])
  · rw [z85 j, hk67]; simp [fv_]
set_option maxRecDepth 100000 in
set_option maxHeartbeats 4000000 in
theorem i_3 {l : Launch} {D : va_G} {cy : Nat → ClassId} {L : List Nat} {κ ln : Nat → Nat} {R : Nat → Nat → Option Nat} {I : Nat → Nat → Int32} {J : Nat → Nat → Int64} {ow : Nat → Nat × Nat} {a : Nat} (ha : a ∈ L) (hk : κ a = 3) (hz : ∀ j, I a j = 0) : CtN l yX3_init cX3_init 1 { frames := 2, cells := 18, slots := 298, locals := 120 } 18 298 D cy L κ ln R I J En_ [.ref a] (Pi_ a L κ ln R ow I J) := by
  refine CtN.of (by decide +kernel) (Nat.le_of_ble_eq_true rfl) ?_
  intro p e s m below meth c B K hN
  have C := B.1
  have hin : meth.name = "<init>" := B.2.2.2
  have hA : ∀ q, s.heap.size ≤ q → AN_ L s.heap.size q := fun q h => Or.inr h
  refine g_lo (is := [0]) (lo2 := [(0, .ref a)]) rfl ?_
  refine g_aload_n C 0 dX3_init_0 rfl rfl ?_
  refine a_obj C oi_3_1 (Nat.le_of_ble_eq_true rfl) (Nat.le_of_ble_eq_true rfl) dX3_init_1 ?_
  refine g_aload_n C 0 dX3_init_4 rfl rfl ?_
  refine a_new (ow := ow) C K hA (a, 0) (by decide) rfl u_in8 tyX8 tyX8_ok cl_3_7 df_8 ⟨Nat.le_of_ble_eq_true rfl, Nat.le_of_ble_eq_true rfl⟩ dX3_init_5 (fun q1 L2 κ3 ln4 R5 I6 J7 ow8 hq9 K10 => ?_)
  refine g_dup C dX3_init_8 rfl ?_
  have hE11 := hq9.2.2.2.2.2.2.2.2
  refine a_initN C K10 hN hA (i_8 (ow := ow8) hq9.2.1 hq9.2.2.2.1 hq9.2.2.2.2.2.2.1 ) En_blind (fun _ _ U _ _ hW => hN.warm hW) jw_3_9 rfl ⟨rfl, rfl⟩ ⟨Nat.le_of_ble_eq_true rfl, Nat.le_of_ble_eq_true rfl⟩ (Nat.le_of_ble_eq_true rfl) ⟨Nat.le_of_ble_eq_true rfl, Nat.le_of_ble_eq_true rfl⟩ dX3_init_9 (st := [.ref q1, .ref a]) rfl (fun L12 κ13 ln14 R15 I16 J17 hp18 K19 => ?_)
  obtain ⟨ow21, x22, x23, x24, x25, x26⟩ := nq_pi hq9 hp18
  have md27 := (Md.rf : Md a L κ ln R ow I J L κ ln R ow I J).ex x22 (x23)
  have z28 : ∀ j, I16 a j = 0 := fun j => ((x22 a ha).2.2.2.2.1 j).trans (hz j)
  have hl29 := (x22 a ha).1
  have hk30 := ((x22 a ha).2.1).trans hk
  refine a_putR C K19 hl29 hk30 f_3_10 p_3_0 hin rfl rfl rfl dX3_init_12 (fun R31 hR32 => ?_)
  have md33 := md27.putR ha hR32
  have rf34 : R31 a 0 = some q1 := by rw [hR32]; exact u2_s
  have fa35 : Fa L12 κ13 ln14 R31 ow21 I16 a 0 8 0 := Fa.new hR32 x24 x25 (fun h => absurd h (by decide))
  have ofa35 : Oh L12 R31 ow21 a 0 := Oh.new hR32 x24 x26.2
  refine g_aload_n C 0 dX3_init_15 rfl rfl ?_
  refine a_new (ow := ow21) C K19 hA (a, 0) (by decide) rfl u_in1 tyX1 tyX1_ok cl_3_16 df_1 ⟨Nat.le_of_ble_eq_true rfl, Nat.le_of_ble_eq_true rfl⟩ dX3_init_16 (fun q36 L37 κ38 ln39 R40 I41 J42 ow43 hq44 K45 => ?_)
  refine g_dup C dX3_init_19 rfl ?_
  refine g_aload_n C 0 dX3_init_20 rfl rfl ?_
  refine g_getR C K45 (hq44.2.2.2.2.2.2.2.2 a hl29).1 (((hq44.2.2.2.2.2.2.2.2 a hl29).2.1).trans hk30) f_3_10 (b := q1) (((hq44.2.2.2.2.2.2.2.2 a hl29).2.2.2.2.2.1 0).trans rf34) dX3_init_21 ?_
  have hE46 := hq44.2.2.2.2.2.2.2.2
  refine a_init C K45 hA (i_1 (ow := ow43) hq44.2.1 hq44.2.2.2.1 hq44.2.2.2.2.2.2.1 (hE46 q1 x24).1 (((hE46 q1 x24).2.1).trans x25)) En_blind (fun _ _ U _ _ hW => hN.warm hW) iw_3_18 rfl ⟨rfl, rfl⟩ ⟨Nat.le_of_ble_eq_true rfl, Nat.le_of_ble_eq_true rfl⟩ (Nat.le_of_ble_eq_true rfl) ⟨Nat.le_of_ble_eq_true rfl, Nat.le_of_ble_eq_true rfl⟩ dX3_init_24 (st := [.ref q36, .ref a]) rfl (fun L47 κ48 ln49 R50 I51 J52 hp53 K54 => ?_)
  obtain ⟨ow56, x57, x58, x59, x60, x61⟩ := nq_pi hq44 hp53
  have md62 := md33.ex x57 (x58)
  have rf63 := ((x57 a hl29).2.2.2.2.2.1 0).trans rf34
  have fa64 := fa35.ex hl29 x57
  have ofa64 := ofa35.ex hl29 x57
  have z65 : ∀ j, I51 a j = 0 := fun j => ((x57 a hl29).2.2.2.2.1 j).trans (z28 j)
  have hl66 := (x57 a hl29).1
  have hk67 := ((x57 a hl29).2.1).trans hk30
  have hl68 := (x57 q1 x24).1
  have hk69 := ((x57 q1 x24).2.1).trans x25
  refine a_putR C K54 hl66 hk67 f_3_21 p_3_1 hin rfl rfl rfl dX3_init_27 (fun R70 hR71 => ?_)
  have md72 := md62.putR ha hR71
  have rf73 : R70 a 0 = some q1 := by rw [hR71, u2_j (by decide)]; exact rf63
  have fa74 := fa64.put hR71 (show 0 ≠ 1 by decide)
  have ofa74 := ofa64.put hR71 (show 0 ≠ 1 by decide)
  have fa75 : Fa L47 κ48 ln49 R70 ow56 I51 a 1 1 0 := Fa.new hR71 x59 x60 (fun h => absurd h (by decide))
  refine g_aload_n C 0 dX3_init_30 rfl rfl ?_
  refine a_new (ow := ow56) C K54 hA (a, 0) (by decide) rfl u_in7 tyX7 tyX7_ok cl_3_25 df_7 ⟨Nat.le_of_ble_eq_true rfl, Nat.le_of_ble_eq_true rfl⟩ dX3_init_31 (fun q76 L77 κ78 ln79 R80 I81 J82 ow83 hq84 K85 => ?_)
  refine g_dup C dX3_init_34 rfl ?_
  have hE86 := hq84.2.2.2.2.2.2.2.2
  refine a_initN C K85 hN hA (i_7 (ow := ow83) hq84.2.1 hq84.2.2.2.1 hq84.2.2.2.2.2.2.1 ) En_blind (fun _ _ U _ _ hW => hN.warm hW) jw_3_27 rfl ⟨rfl, rfl⟩ ⟨Nat.le_of_ble_eq_true rfl, Nat.le_of_ble_eq_true rfl⟩ (Nat.le_of_ble_eq_true rfl) ⟨Nat.le_of_ble_eq_true rfl, Nat.le_of_ble_eq_true rfl⟩ dX3_init_35 (st := [.ref q76, .ref a]) rfl (fun L87 κ88 ln89 R90 I91 J92 hp93 K94 => ?_)
  obtain ⟨ow96, x97, x98, x99, x100, x101⟩ := nq_pi hq84 hp93
  have md102 := md72.ex x97 (x98)
  have rf103 := ((x97 a hl66).2.2.2.2.2.1 0).trans rf73
  have fa104 := fa74.ex hl66 x97
  have ofa104 := ofa74.ex hl66 x97
  have fa105 := fa75.ex hl66 x97
  have z106 : ∀ j, I91 a j = 0 := fun j => ((x97 a hl66).2.2.2.2.1 j).trans (z65 j)
  have hl107 := (x97 a hl66).1
  have hk108 := ((x97 a hl66).2.1).trans hk67
  have hl109 := (x97 q1 hl68).1
  have hk110 := ((x97 q1 hl68).2.1).trans hk69
  have hl111 := (x97 q36 x59).1
  have hk112 := ((x97 q36 x59).2.1).trans x60
  refine a_putR C K94 hl107 hk108 f_3_28 p_3_2 hin rfl rfl rfl dX3_init_38 (fun R113 hR114 => ?_)
  have md115 := md102.putR ha hR114
  have rf116 : R113 a 0 = some q1 := by rw [hR114, u2_j (by decide)]; exact rf103
  have fa117 := fa104.put hR114 (show 0 ≠ 2 by decide)
  have ofa117 := ofa104.put hR114 (show 0 ≠ 2 by decide)
  have fa118 := fa105.put hR114 (show 1 ≠ 2 by decide)
  have fa119 : Fa L87 κ88 ln89 R113 ow96 I91 a 2 7 0 := Fa.new hR114 x99 x100 (fun h => absurd h (by decide))
  refine g_aload_n C 0 dX3_init_41 rfl rfl ?_
  refine g_iconst C (v := 0) dX3_init_42 (by decide) ?_
  refine h_putZ C K94 hl107 hk108 f_3_32 p_3_3 (Or.inl rfl) dX3_init_43 (fun I120 hI121 => ?_)
  have md122 := md115.putI ha hI121
  have z123 : ∀ j, I120 a j = 0 := fun j => by rw [hI121]; by_cases h : j = 3 <;> simp [u2_, h, z106]
  have fa124 := fa117.putI (I3 := I120)
  have ofa124 := ofa117
  have fa125 := fa118.putI (I3 := I120)
  have fa126 := fa119.putI (I3 := I120)
  refine a_wide (k := 18) (n := 298) (Nat.le_of_ble_eq_true rfl) (Nat.le_of_ble_eq_true rfl) ?_
  refine a_vret B K94 ⟨ow96, md122, ⟨fun k q hq h9 => ?_, fun h => absurd (hk108.symm.trans h) (by decide), fun h => absurd (hk108.symm.trans h) (by decide)⟩, fun j => ?_, fun h => absurd (hk108.symm.trans h) (by decide), fun k2 h2 => own_3 hk108 h2 ofa124⟩ dX3_init_46
  · rw [hk108] at hq
    match k, hq with
    | 0, hq => obtain rfl := Option.some.inj (show some (8, 0) = some q from hq); exact fa124
    | 1, hq => obtain rfl := Option.some.inj (show some (1, 0) = some q from hq); exact fa125
    | 2, hq => obtain rfl := Option.some.inj (show some (7, 0) = some q from hq); exact fa126
    | k + 3, hq => exact absurd hq (by simp [rt_])
  · rw [z123 j, hk108]; simp [fv_]
set_option maxRecDepth 100000 in
set_option maxHeartbeats 4000000 in
theorem i_5 {l : Launch} {D : va_G} {cy : Nat → ClassId} {L : List Nat} {κ ln : Nat → Nat} {R : Nat → Nat → Option Nat} {I : Nat → Nat → Int32} {J : Nat → Nat → Int64} {ow : Nat → Nat × Nat} {a : Nat} (ha : a ∈ L) (hk : κ a = 5) (hz : ∀ j, I a j = 0) {tb : Nat} (htbL : tb ∈ L) (htbk : κ tb = 8) : CtN l yX5_init cX5_init 3 { frames := 2, cells := 64, slots := 819, locals := 120 } 64 819 D cy L κ ln R I J En_ [.ref a, .ref tb] (Pi_ a L κ ln R ow I J) := by
  refine CtN.of (by decide +kernel) (Nat.le_of_ble_eq_true rfl) ?_
  intro p e s m below meth c B K hN
  have C := B.1
  have hin : meth.name = "<init>" := B.2.2.2
  have hA : ∀ q, s.heap.size ≤ q → AN_ L s.heap.size q := fun q h => Or.inr h
  refine g_lo (is := [0, 1]) (lo2 := [(0, .ref a), (1, .ref tb)]) rfl ?_
  refine g_aload_n C 0 dX5_init_0 rfl rfl ?_
  refine a_obj C oi_5_3 (Nat.le_of_ble_eq_true rfl) (Nat.le_of_ble_eq_true rfl) dX5_init_1 ?_
  refine g_aload_n C 0 dX5_init_4 rfl rfl ?_
  refine g_bipush C (v := 9) dX5_init_5 (by decide) ?_
  refine a_newqC (ow := ow) C K hA (a, 0) 9 (by decide) (by decide) (by decide) cl_5_11.1 hN.2.1 ⟨Nat.le_of_ble_eq_true rfl, Nat.le_of_ble_eq_true rfl⟩ dX5_init_7 (fun q1 L2 κ3 ln4 R5 I6 J7 ow8 hq9 K10 => ?_)
  have hE11 := hq9.2.2.2.2.2.2.2.2
  have z12 : ∀ j, I6 a j = 0 := fun j => ((hE11 a ha).2.2.2.2.1 j).trans (hz j)
  have hl13 := (hE11 a ha).1
  have hk14 := ((hE11 a ha).2.1).trans hk
  have hl15 := (hE11 tb htbL).1
  have hk16 := ((hE11 tb htbL).2.1).trans htbk
  refine a_putR C K10 hl13 hk14 f_5_13 p_5_0 hin rfl rfl rfl dX5_init_10 (fun R17 hR18 => ?_)
  have md19 := Lp_.new (ed := 1) (Md.rf : Md a L κ ln R ow I J L κ ln R ow I J) ha hq9 hR18
  refine g_aload_n C 0 dX5_init_13 rfl rfl ?_
  refine g_iconst C (v := 0) dX5_init_14 (by decide) ?_
  refine h_putI C K10 hl13 hk14 f_5_17 p_5_1 dX5_init_15 (fun I21 hI22 => ?_)
  have md23 := md19.putI ha hI22
  have z24 : ∀ j, I21 a j = 0 := fun j => by rw [hI22]; by_cases h : j = 1 <;> simp [u2_, h, z12]
  refine g_aload_n C 0 dX5_init_18 rfl rfl ?_
  refine g_iconst C (v := 0) dX5_init_19 (by decide) ?_
  refine h_putI C K10 hl13 hk14 f_5_21 p_5_2 dX5_init_20 (fun I25 hI26 => ?_)
  have md27 := md23.putI ha hI26
  have z28 : ∀ j, I25 a j = 0 := fun j => by rw [hI26]; by_cases h : j = 2 <;> simp [u2_, h, z24]
  refine g_iconst C (v := 0) dX5_init_23 (by decide) ?_
  refine g_istore_n C dX5_init_24 rfl (by decide) (lo2 := [(2, .int 0), (0, .ref a), (1, .ref tb)]) rfl ?_
  have lp : ∀ (n i : Nat), i + n = 9 → ∀ (Lc : List Nat) (κc lnc : Nat → Nat) (Rc : Nat → Nat → Option Nat) (Ic : Nat → Nat → Int32) (Jc : Nat → Nat → Int64) (owc : Nat → Nat × Nat), a ∈ Lc → κc a = 5 → tb ∈ Lc → κc tb = 8 → (∀ j, Ic a j = 0) → Lp_ a q1 0 17 1 9 i L κ ln R ow I J Lc κc lnc Rc owc Ic Jc → Wc_ D cy (AN_ L s.heap.size) Lc s → WG p l e { frames := 2, cells := 64, slots := 819, locals := 120 } s m ([.ref a, .ref tb] : List Value).toArray below meth c 3 (1 + i * 7) (9 + i * 90) (MQ below (Qn_ D cy L s.heap.size (Pi_ a L κ ln R ow I J)) ([.ref a, .ref tb] : List Value).toArray s 64 819 (AN_ L s.heap.size)) D cy (AN_ L s.heap.size) s.heap Lc κc lnc Rc Ic Jc 25 [(2, .int (nI i)), (0, .ref a), (1, .ref tb)] [] := by
    intro n
    induction n with
    | zero =>
      intro i hi Lc κc lnc Rc Ic Jc owc l_a k_a l_tb k_tb z_ md_ K_
      refine g_iload_n C 0 dX5_init_25 rfl rfl ?_
      refine g_bipush C (v := 9) dX5_init_26 (by decide) ?_
      refine t_icmp_ge C (tgt := 51) (lt_ge (n := i) (k := 9) (by omega) (by omega)) dX5_init_28 (by decide) ?_
      obtain rfl : i = 9 := by omega
      obtain ⟨mdf, faf⟩ := md_.fin (by decide)
      refine a_wide (k := 64) (n := 819) (by omega) (by omega) ?_
      refine a_vret B K_ ⟨owc, mdf, ⟨fun k q hq h9 => ?_, fun h => absurd (k_a.symm.trans h) (by decide), fun h => absurd (k_a.symm.trans h) (by decide)⟩, fun j => ?_, fun h => absurd (k_a.symm.trans h) (by decide), fun k2 h2 => absurd h2 (by rw [k_a]; unfold own_; omega)⟩ dX5_init_51
      · rw [k_a] at hq
        match k, hq with
        | 0, hq => obtain rfl := Option.some.inj (show some (17, 9) = some q from hq); exact faf
        | k + 1, hq => exact absurd hq (by simp [rt_])
      · rw [z_ j, k_a]; simp [fv_]
    | succ n ih =>
      intro i hi Lc κc lnc Rc Ic Jc owc l_a k_a l_tb k_tb z_ md_ K_
      refine g_iload_n C 0 dX5_init_25 rfl rfl ?_
      refine g_bipush C (v := 9) dX5_init_26 (by decide) ?_
      refine n_icmp_ge C (tgt := 51) (ln_ge (n := i) (k := 9) (by omega) (by omega)) dX5_init_28 (by decide) ?_
      refine g_aload_n C 1 dX5_init_31 rfl rfl ?_
      refine g_getR C K_ l_a k_a f_5_13 (b := q1) (md_.2.2.2.2.2.2.2.1) dX5_init_32 ?_
      refine g_iload_n C 0 dX5_init_35 rfl rfl ?_
      refine a_new (ow := owc) C K_ hA (a, 0) (by decide) rfl u_in1 tyX1 tyX1_ok cl_5_11 df_1 ⟨show _ ≤ 64 by omega, show _ ≤ 819 by omega⟩ dX5_init_36 (fun q29 L30 κ31 ln32 R33 I34 J35 ow36 hq37 K38 => ?_)
      refine g_dup C dX5_init_39 rfl ?_
      refine g_aload_n C 2 dX5_init_40 rfl rfl ?_
      have hE39 := hq37.2.2.2.2.2.2.2.2
      refine a_init C K38 hA (i_1 (ow := ow36) hq37.2.1 hq37.2.2.2.1 hq37.2.2.2.2.2.2.1 (hE39 tb l_tb).1 (((hE39 tb l_tb).2.1).trans k_tb)) En_blind (fun _ _ U _ _ hW => hN.warm hW) iw_5_24 rfl ⟨rfl, rfl⟩ ⟨Nat.le_of_ble_eq_true rfl, Nat.le_of_ble_eq_true rfl⟩ (Nat.le_of_ble_eq_true rfl) ⟨show _ ≤ 64 by omega, show _ ≤ 819 by omega⟩ dX5_init_41 (st := [.ref q29, .int (nI i), .ref q1]) rfl (fun L40 κ41 ln42 R43 I44 J45 hp46 K47 => ?_)
      obtain ⟨ow49, x50, x51, x52, x53, x54⟩ := nq_pi hq37 hp46
      have md55 := md_.ex l_a x50 (x51)
      have z56 : ∀ j, I44 a j = 0 := fun j => ((x50 a l_a).2.2.2.2.1 j).trans (z_ j)
      have hl57 := (x50 a l_a).1
      have hk58 := ((x50 a l_a).2.1).trans k_a
      have hl59 := (x50 tb l_tb).1
      have hk60 := ((x50 tb l_tb).2.1).trans k_tb
      have hxR61 := md55.2.2.1
      refine g_aastC C K47 md55.2.2.1 md55.2.2.2.2.1 x52 x53 (vi_of (nI_clamp (by omega)) (nI_pos (by omega)) (by rw [md55.2.2.2.2.2.1]; omega)) dX5_init_44 ?_
      rw [nI_clamp (show i < 2147483648 by omega)]
      obtain ⟨R61, hR62⟩ : ∃ z, z = u2_ R43 q1 (i) (some q29) := ⟨_, rfl⟩
      rw [← hR62]
      have hax63 : a ≠ q1 := fun z => md55.2.2.2.1 (z ▸ ha)
      have md64 := md55.ast hax63 x52 x53 hR62
      refine g_iinc C dX5_init_45 (k := 0) (v := nI (i + 1)) rfl (nI_1 (i)) (by decide) (lo2 := [(2, .int (nI (i + 1))), (0, .ref a), (1, .ref tb)]) rfl ?_
      refine g_goto C (tgt := 25) dX5_init_48 (by decide) ?_
      refine g_lo (is := [0, 1, 2]) (lo2 := [(2, .int (nI (i + 1))), (0, .ref a), (1, .ref tb)]) rfl ?_
      refine a_wide (k := 1 + (i + 1) * 7) (n := 9 + (i + 1) * 90) (by omega) (by omega) ?_
      exact ih (i + 1) (by omega) L40 κ41 ln42 R61 I44 J45 ow49 hl57 hk58 hl59 hk60 z56 md64 K47
  exact lp 9 0 (by omega) L2 κ3 ln4 R17 I25 J7 ow8 hl13 hk14 hl15 hk16 z28 md27 K10
set_option maxRecDepth 100000 in
set_option maxHeartbeats 4000000 in
theorem i_4 {l : Launch} {D : va_G} {cy : Nat → ClassId} {L : List Nat} {κ ln : Nat → Nat} {R : Nat → Nat → Option Nat} {I : Nat → Nat → Int32} {J : Nat → Nat → Int64} {ow : Nat → Nat × Nat} {a : Nat} (ha : a ∈ L) (hk : κ a = 4) (hz : ∀ j, I a j = 0) {tb : Nat} (htbL : tb ∈ L) (htbk : κ tb = 8) : CtN l yX4_init cX4_init 3 { frames := 2, cells := 59, slots := 742, locals := 120 } 59 742 D cy L κ ln R I J En_ [.ref a, .ref tb] (Pi_ a L κ ln R ow I J) := by
  refine CtN.of (by decide +kernel) (Nat.le_of_ble_eq_true rfl) ?_
  intro p e s m below meth c B K hN
  have C := B.1
  have hin : meth.name = "<init>" := B.2.2.2
  have hA : ∀ q, s.heap.size ≤ q → AN_ L s.heap.size q := fun q h => Or.inr h
  refine g_lo (is := [0, 1]) (lo2 := [(0, .ref a), (1, .ref tb)]) rfl ?_
  refine g_aload_n C 0 dX4_init_0 rfl rfl ?_
  refine a_obj C oi_4_3 (Nat.le_of_ble_eq_true rfl) (Nat.le_of_ble_eq_true rfl) dX4_init_1 ?_
  refine g_aload_n C 0 dX4_init_4 rfl rfl ?_
  refine g_bipush C (v := 8) dX4_init_5 (by decide) ?_
  refine a_newqC (ow := ow) C K hA (a, 0) 8 (by decide) (by decide) (by decide) cl_4_9.1 hN.2.1 ⟨Nat.le_of_ble_eq_true rfl, Nat.le_of_ble_eq_true rfl⟩ dX4_init_7 (fun q1 L2 κ3 ln4 R5 I6 J7 ow8 hq9 K10 => ?_)
  have hE11 := hq9.2.2.2.2.2.2.2.2
  have z12 : ∀ j, I6 a j = 0 := fun j => ((hE11 a ha).2.2.2.2.1 j).trans (hz j)
  have hl13 := (hE11 a ha).1
  have hk14 := ((hE11 a ha).2.1).trans hk
  have hl15 := (hE11 tb htbL).1
  have hk16 := ((hE11 tb htbL).2.1).trans htbk
  refine a_putR C K10 hl13 hk14 f_4_11 p_4_0 hin rfl rfl rfl dX4_init_10 (fun R17 hR18 => ?_)
  have md19 := Lp_.new (ed := 1) (Md.rf : Md a L κ ln R ow I J L κ ln R ow I J) ha hq9 hR18
  refine g_aload_n C 0 dX4_init_13 rfl rfl ?_
  refine g_bipush C (v := 7) dX4_init_14 (by decide) ?_
  refine a_newI (ow := ow8) C K10 hA (a, 1) 7 (by decide) (by decide) (by decide) ar_int ⟨Nat.le_of_ble_eq_true rfl, Nat.le_of_ble_eq_true rfl⟩ dX4_init_16 (fun q21 L22 κ23 ln24 R25 I26 J27 ow28 hq29 K30 => ?_)
  have hE31 := hq29.2.2.2.2.2.2.2.2
  have md32 := md19.ex hl13 hE31 (hq29.gd (by decide))
  have z33 : ∀ j, I26 a j = 0 := fun j => ((hE31 a hl13).2.2.2.2.1 j).trans (z12 j)
  have hl34 := (hE31 a hl13).1
  have hk35 := ((hE31 a hl13).2.1).trans hk14
  have hl36 := (hE31 tb hl15).1
  have hk37 := ((hE31 tb hl15).2.1).trans hk16
  have hl38 := (hE31 q1 hq9.2.1).1
  have hk39 := ((hE31 q1 hq9.2.1).2.1).trans hq9.2.2.2.1
  refine a_putR C K30 hl34 hk35 f_4_17 p_4_1 hin rfl rfl rfl dX4_init_18 (fun R40 hR41 => ?_)
  have md42 := md32.putR ha (by decide) hR41
  have fa43 : Fa L22 κ23 ln24 R40 ow28 I26 a 1 14 7 := Fa.new hR41 hq29.2.1 hq29.2.2.2.1 (fun _ => ⟨hq29.2.2.2.2.1, hq29.2.2.2.2.2.1⟩)
  refine g_aload_n C 0 dX4_init_21 rfl rfl ?_
  refine g_bipush C (v := 7) dX4_init_22 (by decide) ?_
  refine a_newI (ow := ow28) C K30 hA (a, 2) 7 (by decide) (by decide) (by decide) ar_int ⟨Nat.le_of_ble_eq_true rfl, Nat.le_of_ble_eq_true rfl⟩ dX4_init_24 (fun q44 L45 κ46 ln47 R48 I49 J50 ow51 hq52 K53 => ?_)
  have hE54 := hq52.2.2.2.2.2.2.2.2
  have md55 := md42.ex hl34 hE54 (hq52.gd (by decide))
  have fa56 := fa43.ex hl34 hE54
  have z57 : ∀ j, I49 a j = 0 := fun j => ((hE54 a hl34).2.2.2.2.1 j).trans (z33 j)
  have hl58 := (hE54 a hl34).1
  have hk59 := ((hE54 a hl34).2.1).trans hk35
  have hl60 := (hE54 tb hl36).1
  have hk61 := ((hE54 tb hl36).2.1).trans hk37
  have hl62 := (hE54 q1 hl38).1
  have hk63 := ((hE54 q1 hl38).2.1).trans hk39
  have hl64 := (hE54 q21 hq29.2.1).1
  have hk65 := ((hE54 q21 hq29.2.1).2.1).trans hq29.2.2.2.1
  refine a_putR C K53 hl58 hk59 f_4_21 p_4_2 hin rfl rfl rfl dX4_init_26 (fun R66 hR67 => ?_)
  have md68 := md55.putR ha (by decide) hR67
  have fa69 := fa56.put hR67 (show 1 ≠ 2 by decide)
  have fa70 : Fa L45 κ46 ln47 R66 ow51 I49 a 2 14 7 := Fa.new hR67 hq52.2.1 hq52.2.2.2.1 (fun _ => ⟨hq52.2.2.2.2.1, hq52.2.2.2.2.2.1⟩)
  refine g_aload_n C 0 dX4_init_29 rfl rfl ?_
  refine g_iconst C (v := 0) dX4_init_30 (by decide) ?_
  refine h_putI C K53 hl58 hk59 f_4_24 p_4_3 dX4_init_31 (fun I71 hI72 => ?_)
  have md73 := md68.putI ha hI72
  have z74 : ∀ j, I71 a j = 0 := fun j => by rw [hI72]; by_cases h : j = 3 <;> simp [u2_, h, z57]
  have fa75 := fa69.putI (I3 := I71)
  have fa76 := fa70.putI (I3 := I71)
  refine g_aload_n C 0 dX4_init_34 rfl rfl ?_
  refine g_iconst C (v := 0) dX4_init_35 (by decide) ?_
  refine h_putI C K53 hl58 hk59 f_4_28 p_4_4 dX4_init_36 (fun I77 hI78 => ?_)
  have md79 := md73.putI ha hI78
  have z80 : ∀ j, I77 a j = 0 := fun j => by rw [hI78]; by_cases h : j = 4 <;> simp [u2_, h, z74]
  have fa81 := fa75.putI (I3 := I77)
  have fa82 := fa76.putI (I3 := I77)
  refine g_iconst C (v := 0) dX4_init_39 (by decide) ?_
  refine g_istore_n C dX4_init_40 rfl (by decide) (lo2 := [(2, .int 0), (0, .ref a), (1, .ref tb)]) rfl ?_
  have lp : ∀ (n i : Nat), i + n = 8 → ∀ (Lc : List Nat) (κc lnc : Nat → Nat) (Rc : Nat → Nat → Option Nat) (Ic : Nat → Nat → Int32) (Jc : Nat → Nat → Int64) (owc : Nat → Nat × Nat), a ∈ Lc → κc a = 4 → tb ∈ Lc → κc tb = 8 → (∀ j, Ic a j = 0) → Fa Lc κc lnc Rc owc Ic a 1 14 7 → Fa Lc κc lnc Rc owc Ic a 2 14 7 → Lp_ a q1 0 17 1 8 i L κ ln R ow I J Lc κc lnc Rc owc Ic Jc → Wc_ D cy (AN_ L s.heap.size) Lc s → WG p l e { frames := 2, cells := 59, slots := 742, locals := 120 } s m ([.ref a, .ref tb] : List Value).toArray below meth c 3 (3 + i * 7) (22 + i * 90) (MQ below (Qn_ D cy L s.heap.size (Pi_ a L κ ln R ow I J)) ([.ref a, .ref tb] : List Value).toArray s 59 742 (AN_ L s.heap.size)) D cy (AN_ L s.heap.size) s.heap Lc κc lnc Rc Ic Jc 41 [(2, .int (nI i)), (0, .ref a), (1, .ref tb)] [] := by
    intro n
    induction n with
    | zero =>
      intro i hi Lc κc lnc Rc Ic Jc owc l_a k_a l_tb k_tb z_ fa_1 fa_2 md_ K_
      refine g_iload_n C 0 dX4_init_41 rfl rfl ?_
      refine g_bipush C (v := 7) dX4_init_42 (by decide) ?_
      refine t_icmp_gt C (tgt := 67) (lt_gt (n := i) (k := 7) (by omega) (by omega)) dX4_init_44 (by decide) ?_
      obtain rfl : i = 8 := by omega
      obtain ⟨mdf, faf⟩ := md_.fin (by decide)
      refine a_wide (k := 59) (n := 742) (by omega) (by omega) ?_
      refine a_vret B K_ ⟨owc, mdf, ⟨fun k q hq h9 => ?_, fun h => absurd (k_a.symm.trans h) (by decide), fun h => absurd (k_a.symm.trans h) (by decide)⟩, fun j => ?_, fun h => absurd (k_a.symm.trans h) (by decide), fun k2 h2 => absurd h2 (by rw [k_a]; unfold own_; omega)⟩ dX4_init_67
      · rw [k_a] at hq
        match k, hq with
        | 0, hq => obtain rfl := Option.some.inj (show some (17, 8) = some q from hq); exact faf
        | 1, hq => obtain rfl := Option.some.inj (show some (14, 7) = some q from hq); exact fa_1
        | 2, hq => obtain rfl := Option.some.inj (show some (14, 7) = some q from hq); exact fa_2
        | k + 3, hq => exact absurd hq (by simp [rt_])
      · rw [z_ j, k_a]; simp [fv_]
    | succ n ih =>
      intro i hi Lc κc lnc Rc Ic Jc owc l_a k_a l_tb k_tb z_ fa_1 fa_2 md_ K_
      refine g_iload_n C 0 dX4_init_41 rfl rfl ?_
      refine g_bipush C (v := 7) dX4_init_42 (by decide) ?_
      refine n_icmp_gt C (tgt := 67) (ln_gt (n := i) (k := 7) (by omega) (by omega)) dX4_init_44 (by decide) ?_
      refine g_aload_n C 1 dX4_init_47 rfl rfl ?_
      refine g_getR C K_ l_a k_a f_4_11 (b := q1) (md_.2.2.2.2.2.2.2.1) dX4_init_48 ?_
      refine g_iload_n C 0 dX4_init_51 rfl rfl ?_
      refine a_new (ow := owc) C K_ hA (a, 0) (by decide) rfl u_in1 tyX1 tyX1_ok cl_4_9 df_1 ⟨show _ ≤ 59 by omega, show _ ≤ 742 by omega⟩ dX4_init_52 (fun q83 L84 κ85 ln86 R87 I88 J89 ow90 hq91 K92 => ?_)
      refine g_dup C dX4_init_55 rfl ?_
      refine g_aload_n C 2 dX4_init_56 rfl rfl ?_
      have hE93 := hq91.2.2.2.2.2.2.2.2
      refine a_init C K92 hA (i_1 (ow := ow90) hq91.2.1 hq91.2.2.2.1 hq91.2.2.2.2.2.2.1 (hE93 tb l_tb).1 (((hE93 tb l_tb).2.1).trans k_tb)) En_blind (fun _ _ U _ _ hW => hN.warm hW) iw_4_31 rfl ⟨rfl, rfl⟩ ⟨Nat.le_of_ble_eq_true rfl, Nat.le_of_ble_eq_true rfl⟩ (Nat.le_of_ble_eq_true rfl) ⟨show _ ≤ 59 by omega, show _ ≤ 742 by omega⟩ dX4_init_57 (st := [.ref q83, .int (nI i), .ref q1]) rfl (fun L94 κ95 ln96 R97 I98 J99 hp100 K101 => ?_)
      obtain ⟨ow103, x104, x105, x106, x107, x108⟩ := nq_pi hq91 hp100
      have md109 := md_.ex l_a x104 (x105)
      have fa110 := fa_1.ex l_a x104
      have fa111 := fa_2.ex l_a x104
      have z112 : ∀ j, I98 a j = 0 := fun j => ((x104 a l_a).2.2.2.2.1 j).trans (z_ j)
      have hl113 := (x104 a l_a).1
      have hk114 := ((x104 a l_a).2.1).trans k_a
      have hl115 := (x104 tb l_tb).1
      have hk116 := ((x104 tb l_tb).2.1).trans k_tb
      have hxR117 := md109.2.2.1
      refine g_aastC C K101 md109.2.2.1 md109.2.2.2.2.1 x106 x107 (vi_of (nI_clamp (by omega)) (nI_pos (by omega)) (by rw [md109.2.2.2.2.2.1]; omega)) dX4_init_60 ?_
      rw [nI_clamp (show i < 2147483648 by omega)]
      obtain ⟨R117, hR118⟩ : ∃ z, z = u2_ R97 q1 (i) (some q83) := ⟨_, rfl⟩
      rw [← hR118]
      have hax119 : a ≠ q1 := fun z => md109.2.2.2.1 (z ▸ ha)
      have fa120 : Fa L94 κ95 ln96 R117 ow103 I98 a 1 14 7 := by obtain ⟨b, h1, h2⟩ := fa110; exact ⟨b, by rw [hR118, u2_b hax119]; exact h1, h2⟩
      have fa121 : Fa L94 κ95 ln96 R117 ow103 I98 a 2 14 7 := by obtain ⟨b, h1, h2⟩ := fa111; exact ⟨b, by rw [hR118, u2_b hax119]; exact h1, h2⟩
      have md122 := md109.ast hax119 x106 x107 hR118
      refine g_iinc C dX4_init_61 (k := 0) (v := nI (i + 1)) rfl (nI_1 (i)) (by decide) (lo2 := [(2, .int (nI (i + 1))), (0, .ref a), (1, .ref tb)]) rfl ?_
      refine g_goto C (tgt := 41) dX4_init_64 (by decide) ?_
      refine g_lo (is := [0, 1, 2]) (lo2 := [(2, .int (nI (i + 1))), (0, .ref a), (1, .ref tb)]) rfl ?_
      refine a_wide (k := 3 + (i + 1) * 7) (n := 22 + (i + 1) * 90) (by omega) (by omega) ?_
      exact ih (i + 1) (by omega) L94 κ95 ln96 R117 I98 J99 ow103 hl113 hk114 hl115 hk116 z112 fa120 fa121 md122 K101
  exact lp 8 0 (by omega) L45 κ46 ln47 R66 I77 J50 ow51 hl58 hk59 hl60 hk61 z80 fa81 fa82 md79 K53
