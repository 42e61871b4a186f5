theorem dX11_book_0 : decode cX11_book 0 = .ok (.iload_n 1, 1) := by decide +kernel
theorem dX11_book_1 : decode cX11_book 1 = .ok (.ifCond .eq 12, 3) := by decide +kernel
theorem dX11_book_4 : decode cX11_book 4 = .ok (.iload_n 1, 1) := by decide +kernel
theorem dX11_book_5 : decode cX11_book 5 = .ok (.iconst 1, 1) := by decide +kernel
theorem dX11_book_6 : decode cX11_book 6 = .ok (.if_icmp .eq 7, 3) := by decide +kernel
theorem dX11_book_9 : decode cX11_book 9 = .ok (.sipush (-1000), 3) := by decide +kernel
theorem dX11_book_12 : decode cX11_book 12 = .ok (.ireturn, 1) := by decide +kernel
theorem dX11_book_13 : decode cX11_book 13 = .ok (.aload_n 0, 1) := by decide +kernel
theorem dX11_book_14 : decode cX11_book 14 = .ok (.getfield 52, 3) := by decide +kernel
theorem dX11_book_17 : decode cX11_book 17 = .ok (.aload_n 0, 1) := by decide +kernel
theorem dX11_book_18 : decode cX11_book 18 = .ok (.getfield 10, 3) := by decide +kernel
theorem dX11_book_21 : decode cX11_book 21 = .ok (.aload_n 0, 1) := by decide +kernel
theorem dX11_book_22 : decode cX11_book 22 = .ok (.getfield 19, 3) := by decide +kernel
theorem dX11_book_25 : decode cX11_book 25 = .ok (.invokevirtual 340, 3) := by decide +kernel
theorem dX11_book_28 : decode cX11_book 28 = .ok (.aload_n 0, 1) := by decide +kernel
theorem dX11_book_29 : decode cX11_book 29 = .ok (.getfield 10, 3) := by decide +kernel
theorem dX11_book_32 : decode cX11_book 32 = .ok (.iconst 0, 1) := by decide +kernel
theorem dX11_book_33 : decode cX11_book 33 = .ok (.putfield 102, 3) := by decide +kernel
theorem dX11_book_36 : decode cX11_book 36 = .ok (.aload_n 0, 1) := by decide +kernel
theorem dX11_book_37 : decode cX11_book 37 = .ok (.getfield 10, 3) := by decide +kernel
theorem dX11_book_40 : decode cX11_book 40 = .ok (.getfield 113, 3) := by decide +kernel
theorem dX11_book_43 : decode cX11_book 43 = .ok (.ifCond .eq 14, 3) := by decide +kernel
theorem dX11_book_57 : decode cX11_book 57 = .ok (.aload_n 0, 1) := by decide +kernel
theorem dX11_book_58 : decode cX11_book 58 = .ok (.getfield 32, 3) := by decide +kernel
theorem dX11_book_61 : decode cX11_book 61 = .ok (.aload_n 0, 1) := by decide +kernel
theorem dX11_book_62 : decode cX11_book 62 = .ok (.getfield 28, 3) := by decide +kernel
theorem dX11_book_65 : decode cX11_book 65 = .ok (.invokevirtual 126, 3) := by decide +kernel
theorem dX11_book_68 : decode cX11_book 68 = .ok (.aload_n 0, 1) := by decide +kernel
theorem dX11_book_69 : decode cX11_book 69 = .ok (.getfield 52, 3) := by decide +kernel
theorem dX11_book_72 : decode cX11_book 72 = .ok (.aload_n 0, 1) := by decide +kernel
theorem dX11_book_73 : decode cX11_book 73 = .ok (.getfield 32, 3) := by decide +kernel
theorem dX11_book_76 : decode cX11_book 76 = .ok (.invokevirtual 343, 3) := by decide +kernel
theorem dX11_book_79 : decode cX11_book 79 = .ok (.iload_n 1, 1) := by decide +kernel
theorem dX11_book_80 : decode cX11_book 80 = .ok (.iconst 1, 1) := by decide +kernel
theorem dX11_book_81 : decode cX11_book 81 = .ok (.if_icmp .ne 32, 3) := by decide +kernel
theorem dX11_book_84 : decode cX11_book 84 = .ok (.aload_n 0, 1) := by decide +kernel
theorem dX11_book_85 : decode cX11_book 85 = .ok (.getfield 38, 3) := by decide +kernel
theorem dX11_book_88 : decode cX11_book 88 = .ok (.aload_n 0, 1) := by decide +kernel
theorem dX11_book_89 : decode cX11_book 89 = .ok (.getfield 28, 3) := by decide +kernel
theorem dX11_book_92 : decode cX11_book 92 = .ok (.invokevirtual 225, 3) := by decide +kernel
theorem dX11_book_95 : decode cX11_book 95 = .ok (.aload_n 0, 1) := by decide +kernel
theorem dX11_book_96 : decode cX11_book 96 = .ok (.getfield 38, 3) := by decide +kernel
theorem dX11_book_99 : decode cX11_book 99 = .ok (.invokevirtual 260, 3) := by decide +kernel
theorem dX11_book_102 : decode cX11_book 102 = .ok (.aload_n 0, 1) := by decide +kernel
theorem dX11_book_103 : decode cX11_book 103 = .ok (.getfield 28, 3) := by decide +kernel
theorem dX11_book_106 : decode cX11_book 106 = .ok (.aload_n 0, 1) := by decide +kernel
theorem dX11_book_107 : decode cX11_book 107 = .ok (.getfield 32, 3) := by decide +kernel
theorem dX11_book_110 : decode cX11_book 110 = .ok (.invokevirtual 126, 3) := by decide +kernel
theorem dX11_book_113 : decode cX11_book 113 = .ok (.aload_n 0, 1) := by decide +kernel
theorem dX11_book_114 : decode cX11_book 114 = .ok (.getfield 52, 3) := by decide +kernel
theorem dX11_book_117 : decode cX11_book 117 = .ok (.getfield 346, 3) := by decide +kernel
theorem dX11_book_120 : decode cX11_book 120 = .ok (.ifCond .ne 7, 3) := by decide +kernel
theorem dX11_book_123 : decode cX11_book 123 = .ok (.iconst (-1), 1) := by decide +kernel
theorem dX11_book_124 : decode cX11_book 124 = .ok (.goto 10, 3) := by decide +kernel
theorem dX11_book_134 : decode cX11_book 134 = .ok (.ireturn, 1) := by decide +kernel
theorem dX11_image_0 : decode cX11_image 0 = .ok (.iload_n 1, 1) := by decide +kernel
theorem dX11_image_1 : decode cX11_image 1 = .ok (.ifCond .lt 8, 3) := by decide +kernel
theorem dX11_image_4 : decode cX11_image 4 = .ok (.iload_n 1, 1) := by decide +kernel
theorem dX11_image_5 : decode cX11_image 5 = .ok (.iconst 2, 1) := by decide +kernel
theorem dX11_image_6 : decode cX11_image 6 = .ok (.if_icmp .lt 5, 3) := by decide +kernel
theorem dX11_image_9 : decode cX11_image 9 = .ok (.iconst 0, 1) := by decide +kernel
theorem dX11_image_10 : decode cX11_image 10 = .ok (.ireturn, 1) := by decide +kernel
theorem dX11_image_11 : decode cX11_image 11 = .ok (.aload_n 0, 1) := by decide +kernel
theorem dX11_image_12 : decode cX11_image 12 = .ok (.getfield 89, 3) := by decide +kernel
theorem dX11_image_15 : decode cX11_image 15 = .ok (.iload_n 1, 1) := by decide +kernel
theorem dX11_image_16 : decode cX11_image 16 = .ok (.aaload, 1) := by decide +kernel
theorem dX11_image_17 : decode cX11_image 17 = .ok (.aload_n 0, 1) := by decide +kernel
theorem dX11_image_18 : decode cX11_image 18 = .ok (.getfield 19, 3) := by decide +kernel
theorem dX11_image_21 : decode cX11_image 21 = .ok (.aload_n 0, 1) := by decide +kernel
theorem dX11_image_22 : decode cX11_image 22 = .ok (.getfield 28, 3) := by decide +kernel
theorem dX11_image_25 : decode cX11_image 25 = .ok (.aload_n 0, 1) := by decide +kernel
theorem dX11_image_26 : decode cX11_image 26 = .ok (.getfield 59, 3) := by decide +kernel
theorem dX11_image_29 : decode cX11_image 29 = .ok (.invokevirtual 379, 3) := by decide +kernel
theorem dX11_image_32 : decode cX11_image 32 = .ok (.iconst 1, 1) := by decide +kernel
theorem dX11_image_33 : decode cX11_image 33 = .ok (.ireturn, 1) := by decide +kernel
theorem dX11_keptIfAny_0 : decode cX11_keptIfAny 0 = .ok (.iload_n 1, 1) := by decide +kernel
theorem dX11_keptIfAny_1 : decode cX11_keptIfAny 1 = .ok (.ifCond .le 10, 3) := by decide +kernel
theorem dX11_keptIfAny_4 : decode cX11_keptIfAny 4 = .ok (.aload_n 0, 1) := by decide +kernel
theorem dX11_keptIfAny_5 : decode cX11_keptIfAny 5 = .ok (.getfield 38, 3) := by decide +kernel
theorem dX11_keptIfAny_8 : decode cX11_keptIfAny 8 = .ok (.invokevirtual 260, 3) := by decide +kernel
theorem dX11_keptIfAny_11 : decode cX11_keptIfAny 11 = .ok (.iload_n 1, 1) := by decide +kernel
theorem dX11_keptIfAny_12 : decode cX11_keptIfAny 12 = .ok (.ireturn, 1) := by decide +kernel
theorem dX11_meals_0 : decode cX11_meals 0 = .ok (.iload_n 1, 1) := by decide +kernel
theorem dX11_meals_1 : decode cX11_meals 1 = .ok (.iconst 1, 1) := by decide +kernel
theorem dX11_meals_2 : decode cX11_meals 2 = .ok (.if_icmp .lt 9, 3) := by decide +kernel
theorem dX11_meals_5 : decode cX11_meals 5 = .ok (.iload_n 1, 1) := by decide +kernel
theorem dX11_meals_6 : decode cX11_meals 6 = .ok (.bipush 60, 2) := by decide +kernel
theorem dX11_meals_8 : decode cX11_meals 8 = .ok (.if_icmp .le 5, 3) := by decide +kernel
theorem dX11_meals_11 : decode cX11_meals 11 = .ok (.iconst (-1), 1) := by decide +kernel
theorem dX11_meals_12 : decode cX11_meals 12 = .ok (.ireturn, 1) := by decide +kernel
theorem dX11_meals_13 : decode cX11_meals 13 = .ok (.aload_n 0, 1) := by decide +kernel
theorem dX11_meals_14 : decode cX11_meals 14 = .ok (.getfield 38, 3) := by decide +kernel
theorem dX11_meals_17 : decode cX11_meals 17 = .ok (.aload_n 0, 1) := by decide +kernel
theorem dX11_meals_18 : decode cX11_meals 18 = .ok (.getfield 28, 3) := by decide +kernel
theorem dX11_meals_21 : decode cX11_meals 21 = .ok (.invokevirtual 225, 3) := by decide +kernel
theorem dX11_meals_24 : decode cX11_meals 24 = .ok (.aload_n 0, 1) := by decide +kernel
theorem dX11_meals_25 : decode cX11_meals 25 = .ok (.aload_n 0, 1) := by decide +kernel
theorem dX11_meals_26 : decode cX11_meals 26 = .ok (.getfield 28, 3) := by decide +kernel
theorem dX11_meals_29 : decode cX11_meals 29 = .ok (.iload_n 1, 1) := by decide +kernel
theorem dX11_meals_30 : decode cX11_meals 30 = .ok (.invokevirtual 250, 3) := by decide +kernel
theorem dX11_meals_33 : decode cX11_meals 33 = .ok (.invokevirtual 253, 3) := by decide +kernel
theorem dX11_meals_36 : decode cX11_meals 36 = .ok (.ireturn, 1) := by decide +kernel
theorem dX11_restore_0 : decode cX11_restore 0 = .ok (.iload_n 1, 1) := by decide +kernel
theorem dX11_restore_1 : decode cX11_restore 1 = .ok (.ifCond .lt 20, 3) := by decide +kernel
theorem dX11_restore_4 : decode cX11_restore 4 = .ok (.iload_n 1, 1) := by decide +kernel
theorem dX11_restore_5 : decode cX11_restore 5 = .ok (.iconst 2, 1) := by decide +kernel
theorem dX11_restore_6 : decode cX11_restore 6 = .ok (.if_icmp .ge 15, 3) := by decide +kernel
theorem dX11_restore_9 : decode cX11_restore 9 = .ok (.aload_n 0, 1) := by decide +kernel
theorem dX11_restore_10 : decode cX11_restore 10 = .ok (.getfield 89, 3) := by decide +kernel
theorem dX11_restore_13 : decode cX11_restore 13 = .ok (.iload_n 1, 1) := by decide +kernel
theorem dX11_restore_14 : decode cX11_restore 14 = .ok (.aaload, 1) := by decide +kernel
theorem dX11_restore_15 : decode cX11_restore 15 = .ok (.getfield 383, 3) := by decide +kernel
theorem dX11_restore_18 : decode cX11_restore 18 = .ok (.ifCond .ne 5, 3) := by decide +kernel
theorem dX11_restore_21 : decode cX11_restore 21 = .ok (.iconst 0, 1) := by decide +kernel
theorem dX11_restore_22 : decode cX11_restore 22 = .ok (.ireturn, 1) := by decide +kernel
theorem dX11_sentence_0 : decode cX11_sentence 0 = .ok (.aload_n 0, 1) := by decide +kernel
theorem dX11_sentence_1 : decode cX11_sentence 1 = .ok (.getfield 63, 3) := by decide +kernel
theorem dX11_sentence_4 : decode cX11_sentence 4 = .ok (.aload_n 0, 1) := by decide +kernel
theorem dX11_sentence_5 : decode cX11_sentence 5 = .ok (.getfield 10, 3) := by decide +kernel
theorem dX11_sentence_8 : decode cX11_sentence 8 = .ok (.aload_n 0, 1) := by decide +kernel
theorem dX11_sentence_9 : decode cX11_sentence 9 = .ok (.getfield 19, 3) := by decide +kernel
theorem dX11_sentence_12 : decode cX11_sentence 12 = .ok (.invokevirtual 362, 3) := by decide +kernel
theorem dX11_sentence_15 : decode cX11_sentence 15 = .ok (.pop, 1) := by decide +kernel
theorem dX11_sentence_16 : decode cX11_sentence 16 = .ok (.aload_n 0, 1) := by decide +kernel
theorem dX11_sentence_17 : decode cX11_sentence 17 = .ok (.getfield 10, 3) := by decide +kernel
theorem dX11_sentence_20 : decode cX11_sentence 20 = .ok (.iconst 0, 1) := by decide +kernel
theorem dX11_sentence_21 : decode cX11_sentence 21 = .ok (.putfield 102, 3) := by decide +kernel
theorem dX11_sentence_24 : decode cX11_sentence 24 = .ok (.aload_n 0, 1) := by decide +kernel
theorem dX11_sentence_25 : decode cX11_sentence 25 = .ok (.getfield 10, 3) := by decide +kernel
theorem dX11_sentence_28 : decode cX11_sentence 28 = .ok (.getfield 113, 3) := by decide +kernel
theorem dX11_sentence_31 : decode cX11_sentence 31 = .ok (.ifCond .eq 13, 3) := by decide +kernel
theorem dX11_sentence_34 : decode cX11_sentence 34 = .ok (.iconst (-1), 1) := by decide +kernel
theorem dX11_sentence_35 : decode cX11_sentence 35 = .ok (.aload_n 0, 1) := by decide +kernel
theorem dX11_sentence_36 : decode cX11_sentence 36 = .ok (.getfield 10, 3) := by decide +kernel
theorem dX11_sentence_39 : decode cX11_sentence 39 = .ok (.getfield 116, 3) := by decide +kernel
theorem dX11_sentence_42 : decode cX11_sentence 42 = .ok (.isub, 1) := by decide +kernel
theorem dX11_sentence_43 : decode cX11_sentence 43 = .ok (.ireturn, 1) := by decide +kernel
set_option maxRecDepth 100000 in
set_option maxHeartbeats 4000000 in
theorem c_keptIfAny {l : Launch} {D : va_G} {cy : Nat → ClassId} {L : List Nat} {κ ln : Nat → Nat} {R : Nat → Nat → Option Nat} {I : Nat → Nat → Int32} {J : Nat → Nat → Int64} {ow : Nat → Nat × Nat} (W9 : ∀ a ∈ L, Shp L κ ln R ow a) {x : Nat} (hLx : x ∈ L) (hkx : κ x = 11) (N : Nat) (h0 : 1 ≤ N ∧ N ≤ 60) (h1 : ∀ b, R x 4 = some b → I b 1 = 0) (h2 : ∀ b, R x 4 = some b → I b 2 = 0) : CtI l yX11_keptIfAny cX11_keptIfAny 2 (some .int) { frames := 2, cells := 0, slots := 0, locals := 150 } D cy L κ ln R I J [.ref x, .int (nI N)] (fun r _ _ => r = nI N) := by
  refine CtI.of (by decide +kernel) (Nat.le_of_ble_eq_true rfl) ?_
  intro p e s m below meth c B K
  have C := B.1
  refine g_lo (is := [0, 1]) (lo2 := [(0, .ref x), (1, .int (nI N))]) rfl ?_
  refine g_iload_n C 1 dX11_keptIfAny_0 rfl rfl ?_
  refine n_if_le C (tgt := 11) (ln_le (n := N) (k := 0) (by omega) (by omega)) dX11_keptIfAny_1 (by decide) ?_
  refine g_aload_n C 0 dX11_keptIfAny_4 rfl rfl ?_
  obtain ⟨b_666, hb_666, hb_666L, hb_666k⟩ := shp_o (W9 x hLx) hkx 4 5 rfl (by decide)
  refine g_getR C K hLx hkx f_11_38 hb_666 dX11_keptIfAny_5 ?_
  refine g_callVV C K (c_Past_keepNoted0 hb_666L hb_666k (h1 b_666 hb_666) (h2 b_666 hb_666)) hb_666L hb_666k (by decide) rfl v_11_260 rfl ⟨rfl, rfl⟩ ⟨Nat.le_of_ble_eq_true rfl, Nat.le_of_ble_eq_true rfl⟩ (Nat.le_of_ble_eq_true rfl) ⟨Nat.le_of_ble_eq_true rfl, Nat.le_of_ble_eq_true rfl⟩ dX11_keptIfAny_8 rfl (st := []) (fun I_667 J_668 h_669 => ?_)
  obtain ⟨rfl, f_671⟩ := h_669
  refine g_iload_n C 1 dX11_keptIfAny_11 rfl rfl ?_
  exact g_zret (ty := .int) (r := nI N) B K rfl rfl (rfl) dX11_keptIfAny_12
set_option maxRecDepth 100000 in
set_option maxHeartbeats 4000000 in
theorem t_meals {l : Launch} {D : va_G} {cy : Nat → ClassId} {L : List Nat} {κ ln : Nat → Nat} {R : Nat → Nat → Option Nat} {I : Nat → Nat → Int32} {J : Nat → Nat → Int64} {ow : Nat → Nat × Nat} (W9 : ∀ a ∈ L, Shp L κ ln R ow a) {x : Nat} (hLx : x ∈ L) (hkx : κ x = 11) (FZ : Fz_ L κ I) (n : Int32) : CtI l yX11_meals cX11_meals 2 (some .int) { frames := 5, cells := 0, slots := 0, locals := 320 } D cy L κ ln R I J [.ref x, .int n] (fun r _ _ => r = if 1 ≤ n ∧ n ≤ 60 then n else -1) := by
  refine CtI.of (by decide +kernel) (Nat.le_of_ble_eq_true rfl) ?_
  intro p e s m below meth c B K
  have C := B.1
  have Z1 := fz_Z FZ 1 (by decide) (by decide) (by decide)
  have Z8 := fz_Z FZ 8 (by decide) (by decide) (by decide)
  refine g_lo (is := [0, 1]) (lo2 := [(0, .ref x), (1, .int n)]) rfl ?_
  refine g_iload_n C 1 dX11_meals_0 rfl rfl ?_
  refine g_iconst C (v := 1) dX11_meals_1 (by decide) ?_
  refine g_icmp_lt C (tgt := 11) dX11_meals_2 (by decide) (fun h_673 => ?_) (fun h_673 => ?_)
  · skip
    refine g_iconst C (v := (-1)) dX11_meals_11 (by decide) ?_
    exact g_zret (ty := .int) (r := (-1)) B K rfl rfl (by first | exact p_lo (by assumption) | exact p_hi (Int32.not_le.mp (by assumption))) dX11_meals_12
  · skip
    refine g_iload_n C 1 dX11_meals_5 rfl rfl ?_
    refine g_bipush C (v := 60) dX11_meals_6 (by decide) ?_
    refine g_icmp_le C (tgt := 13) dX11_meals_8 (by decide) (fun h_674 => ?_) (fun h_674 => ?_)
    · skip
      obtain ⟨N, hN, rfl⟩ := mk_N h_673 (fun q => Int32.lt_irrefl (Int32.lt_of_lt_of_le q h_674))
      refine g_aload_n C 0 dX11_meals_13 rfl rfl ?_
      obtain ⟨b_675, hb_675, hb_675L, hb_675k⟩ := shp_o (W9 x hLx) hkx 4 5 rfl (by decide)
      refine g_getR C K hLx hkx f_11_38 hb_675 dX11_meals_14 ?_
      refine g_aload_n C 0 dX11_meals_17 rfl rfl ?_
      obtain ⟨b_676, hb_676, hb_676L, hb_676k⟩ := shp_o (W9 x hLx) hkx 2 1 rfl (by decide)
      refine g_getR C K hLx hkx f_11_28 hb_676 dX11_meals_18 ?_
      refine g_callVV C K (c_Past_note0 W9 hb_675L hb_675k hb_676L hb_676k (Z1) ((by rw [FZ b_675 hb_675L 2, hb_675k]; rfl))) hb_675L hb_675k (by decide) rfl v_11_225 rfl ⟨rfl, rfl⟩ ⟨Nat.le_of_ble_eq_true rfl, Nat.le_of_ble_eq_true rfl⟩ (Nat.le_of_ble_eq_true rfl) ⟨Nat.le_of_ble_eq_true rfl, Nat.le_of_ble_eq_true rfl⟩ dX11_meals_21 rfl (st := []) (fun I_677 J_678 h_679 => ?_)
      obtain ⟨rfl, f_681, z_683⟩ := h_679
      refine g_aload_n C 0 dX11_meals_24 rfl rfl ?_
      refine g_aload_n C 0 dX11_meals_25 rfl rfl ?_
      refine g_getR C K hLx hkx f_11_28 hb_676 dX11_meals_26 ?_
      refine g_iload_n C 1 dX11_meals_29 rfl rfl ?_
      refine g_callVI C K (c_Course_letMealsGo0 W9 hb_676L hb_676k ((Z8).fk f_681 (by decide)) N hN.2 (z_683 b_676 hb_676L hb_676k 9)) hb_676L hb_676k (by decide) rfl v_11_250 rfl ⟨rfl, rfl⟩ ⟨Nat.le_of_ble_eq_true rfl, Nat.le_of_ble_eq_true rfl⟩ (Nat.le_of_ble_eq_true rfl) ⟨Nat.le_of_ble_eq_true rfl, Nat.le_of_ble_eq_true rfl⟩ dX11_meals_30 rfl (st := [.ref x]) (fun r_687 I_684 J_685 h_686 => ?_)
      obtain ⟨rfl, f_688, rfl⟩ := h_686
      refine g_callVI C K (c_keptIfAny W9 hLx hkx N hN (fun b hb => by rw [hb_675] at hb; cases hb; exact (by rw [f_688 b_675 1 (by rw [hb_675k]; decide), f_681 b_675 1 (by rw [hb_675k]; decide)]; exact (by rw [FZ b_675 hb_675L 1, hb_675k]; rfl))) (fun b hb => by rw [hb_675] at hb; cases hb; exact (by rw [f_688 b_675 2 (by rw [hb_675k]; decide), f_681 b_675 2 (by rw [hb_675k]; decide)]; exact (by rw [FZ b_675 hb_675L 2, hb_675k]; rfl)))) hLx hkx (by decide) rfl v_11_253 rfl ⟨rfl, rfl⟩ ⟨Nat.le_of_ble_eq_true rfl, Nat.le_of_ble_eq_true rfl⟩ (Nat.le_of_ble_eq_true rfl) ⟨Nat.le_of_ble_eq_true rfl, Nat.le_of_ble_eq_true rfl⟩ dX11_meals_33 rfl (st := []) (fun r_693 I_690 J_691 h_692 => ?_)
      subst h_692
      exact g_zret (ty := .int) (r := nI N) B K rfl rfl (by rw [if_pos ⟨lt_ge (k := 1) hN.1 (by omega), lt_le (k := 60) hN.2 (by decide)⟩]) dX11_meals_36
    · skip
      refine g_iconst C (v := (-1)) dX11_meals_11 (by decide) ?_
      exact g_zret (ty := .int) (r := (-1)) B K rfl rfl (by first | exact p_lo (by assumption) | exact p_hi (Int32.not_le.mp (by assumption))) dX11_meals_12
set_option maxRecDepth 100000 in
set_option maxHeartbeats 4000000 in
theorem t_book {l : Launch} {D : va_G} {cy : Nat → ClassId} {L : List Nat} {κ ln : Nat → Nat} {R : Nat → Nat → Option Nat} {I : Nat → Nat → Int32} {J : Nat → Nat → Int64} {ow : Nat → Nat × Nat} (W9 : ∀ a ∈ L, Shp L κ ln R ow a) {x : Nat} (hLx : x ∈ L) (hkx : κ x = 11) (FZ : Fz_ L κ I) (v : Int32) : CtI l yX11_book cX11_book 2 (some .int) { frames := 5, cells := 0, slots := 0, locals := 320 } D cy L κ ln R I J [.ref x, .int v] (fun r _ _ => r = if v = 0 ∨ v = 1 then -1 else -1000) := by
  refine CtI.of (by decide +kernel) (Nat.le_of_ble_eq_true rfl) ?_
  intro p e s m below meth c B K
  have C := B.1
  have Z1 := fz_Z FZ 1 (by decide) (by decide) (by decide)
  have Z8 := fz_Z FZ 8 (by decide) (by decide) (by decide)
  refine g_lo (is := [0, 1]) (lo2 := [(0, .ref x), (1, .int v)]) rfl ?_
  refine g_iload_n C 1 dX11_book_0 rfl rfl ?_
  refine g_if_eq C (tgt := 13) dX11_book_1 (by decide) (fun h_694 => ?_) (fun h_694 => ?_)
  · skip
    subst h_694
    refine g_aload_n C 0 dX11_book_13 rfl rfl ?_
    obtain ⟨b_695, hb_695, hb_695L, hb_695k⟩ := shp_o (W9 x hLx) hkx 6 0 rfl (by decide)
    refine g_getR C K hLx hkx f_11_52 hb_695 dX11_book_14 ?_
    refine g_aload_n C 0 dX11_book_17 rfl rfl ?_
    obtain ⟨b_696, hb_696, hb_696L, hb_696k⟩ := shp_o (W9 x hLx) hkx 0 10 rfl (by decide)
    refine g_getR C K hLx hkx f_11_10 hb_696 dX11_book_18 ?_
    refine g_aload_n C 0 dX11_book_21 rfl rfl ?_
    obtain ⟨b_697, hb_697, hb_697L, hb_697k⟩ := shp_o (W9 x hLx) hkx 1 8 rfl (by decide)
    refine g_getR C K hLx hkx f_11_19 hb_697 dX11_book_22 ?_
    refine g_callVV C K (c_Book_readFrom0 W9 hb_695L hb_695k hb_696L hb_696k hb_697L hb_697k ((by rw [FZ b_696 hb_696L 5, hb_696k]; rfl))) hb_695L hb_695k (by decide) rfl v_11_340 rfl ⟨rfl, rfl⟩ ⟨Nat.le_of_ble_eq_true rfl, Nat.le_of_ble_eq_true rfl⟩ (Nat.le_of_ble_eq_true rfl) ⟨Nat.le_of_ble_eq_true rfl, Nat.le_of_ble_eq_true rfl⟩ dX11_book_25 rfl (st := []) (fun I_698 J_699 h_700 => ?_)
    obtain ⟨g_703, f_702, v_704, v_705⟩ := h_700
    refine g_aload_n C 0 dX11_book_28 rfl rfl ?_
    refine g_getR C K hLx hkx f_11_10 hb_696 dX11_book_29 ?_
    refine g_iconst C (v := 0) dX11_book_32 (by decide) ?_
    refine h_putI C K hb_696L hb_696k f_11_102 p_10_5 dX11_book_33 (fun I_706 hI_706 => ?_)
    refine g_aload_n C 0 dX11_book_36 rfl rfl ?_
    refine g_getR C K hLx hkx f_11_10 hb_696 dX11_book_37 ?_
    refine g_getI C K hb_696L hb_696k f_11_113 (v := 0) (by rw [hI_706, u2_j (by decide)]; exact v_705) dX11_book_40 ?_
    refine t_if_eq C (tgt := 57) (by decide) dX11_book_43 (by decide) ?_
    refine g_aload_n C 0 dX11_book_57 rfl rfl ?_
    obtain ⟨b_707, hb_707, hb_707L, hb_707k⟩ := shp_o (W9 x hLx) hkx 3 1 rfl (by decide)
    refine g_getR C K hLx hkx f_11_32 hb_707 dX11_book_58 ?_
    refine g_aload_n C 0 dX11_book_61 rfl rfl ?_
    obtain ⟨b_708, hb_708, hb_708L, hb_708k⟩ := shp_o (W9 x hLx) hkx 2 1 rfl (by decide)
    refine g_getR C K hLx hkx f_11_28 hb_708 dX11_book_62 ?_
    refine g_callVV C K (c_Course_become W9 hb_707L hb_707k hb_708L hb_708k (((Z1).fk f_702 (by decide)).u2 hI_706 rfl)) hb_707L hb_707k (by decide) rfl v_11_126 rfl ⟨rfl, rfl⟩ ⟨Nat.le_of_ble_eq_true rfl, Nat.le_of_ble_eq_true rfl⟩ (Nat.le_of_ble_eq_true rfl) ⟨Nat.le_of_ble_eq_true rfl, Nat.le_of_ble_eq_true rfl⟩ dX11_book_65 rfl (st := []) (fun I_709 J_710 h_711 => ?_)
    obtain ⟨rfl, f_713, z_715⟩ := h_711
    refine g_aload_n C 0 dX11_book_68 rfl rfl ?_
    refine g_getR C K hLx hkx f_11_52 hb_695 dX11_book_69 ?_
    refine g_aload_n C 0 dX11_book_72 rfl rfl ?_
    refine g_getR C K hLx hkx f_11_32 hb_707 dX11_book_73 ?_
    refine g_callVV C K (c_Book_judgeBy0 hb_695L hb_695k hb_707L hb_707k (by rw [f_713 b_695 4 (by rw [hb_695k]; decide), hI_706, u2_j (by decide)]; exact v_704)) hb_695L hb_695k (by decide) rfl v_11_343 rfl ⟨rfl, rfl⟩ ⟨Nat.le_of_ble_eq_true rfl, Nat.le_of_ble_eq_true rfl⟩ (Nat.le_of_ble_eq_true rfl) ⟨Nat.le_of_ble_eq_true rfl, Nat.le_of_ble_eq_true rfl⟩ dX11_book_76 rfl (st := []) (fun I_716 J_717 h_718 => ?_)
    obtain ⟨rfl, f_720, v_722, v_723⟩ := h_718
    refine g_iload_n C 1 dX11_book_79 rfl rfl ?_
    refine g_iconst C (v := 1) dX11_book_80 (by decide) ?_
    refine t_icmp_ne C (tgt := 113) (by decide) dX11_book_81 (by decide) ?_
    refine g_aload_n C 0 dX11_book_113 rfl rfl ?_
    refine g_getR C K hLx hkx f_11_52 hb_695 dX11_book_114 ?_
    refine g_getI C K hb_695L hb_695k f_11_346 (v := 0) (v_722) dX11_book_117 ?_
    refine n_if_ne C (tgt := 127) (by decide) dX11_book_120 (by decide) ?_
    refine g_iconst C (v := (-1)) dX11_book_123 (by decide) ?_
    refine g_goto C (tgt := 134) dX11_book_124 (by decide) ?_
    exact g_zret (ty := .int) (r := (-1)) B K rfl rfl (by simp) dX11_book_134
  · skip
    refine g_iload_n C 1 dX11_book_4 rfl rfl ?_
    refine g_iconst C (v := 1) dX11_book_5 (by decide) ?_
    refine g_icmp_eq C (tgt := 13) dX11_book_6 (by decide) (fun h_724 => ?_) (fun h_724 => ?_)
    · skip
      subst h_724
      refine g_aload_n C 0 dX11_book_13 rfl rfl ?_
      obtain ⟨b_725, hb_725, hb_725L, hb_725k⟩ := shp_o (W9 x hLx) hkx 6 0 rfl (by decide)
      refine g_getR C K hLx hkx f_11_52 hb_725 dX11_book_14 ?_
      refine g_aload_n C 0 dX11_book_17 rfl rfl ?_
      obtain ⟨b_726, hb_726, hb_726L, hb_726k⟩ := shp_o (W9 x hLx) hkx 0 10 rfl (by decide)
      refine g_getR C K hLx hkx f_11_10 hb_726 dX11_book_18 ?_
      refine g_aload_n C 0 dX11_book_21 rfl rfl ?_
      obtain ⟨b_727, hb_727, hb_727L, hb_727k⟩ := shp_o (W9 x hLx) hkx 1 8 rfl (by decide)
      refine g_getR C K hLx hkx f_11_19 hb_727 dX11_book_22 ?_
      refine g_callVV C K (c_Book_readFrom0 W9 hb_725L hb_725k hb_726L hb_726k hb_727L hb_727k ((by rw [FZ b_726 hb_726L 5, hb_726k]; rfl))) hb_725L hb_725k (by decide) rfl v_11_340 rfl ⟨rfl, rfl⟩ ⟨Nat.le_of_ble_eq_true rfl, Nat.le_of_ble_eq_true rfl⟩ (Nat.le_of_ble_eq_true rfl) ⟨Nat.le_of_ble_eq_true rfl, Nat.le_of_ble_eq_true rfl⟩ dX11_book_25 rfl (st := []) (fun I_728 J_729 h_730 => ?_)
      obtain ⟨g_733, f_732, v_734, v_735⟩ := h_730
      refine g_aload_n C 0 dX11_book_28 rfl rfl ?_
      refine g_getR C K hLx hkx f_11_10 hb_726 dX11_book_29 ?_
      refine g_iconst C (v := 0) dX11_book_32 (by decide) ?_
      refine h_putI C K hb_726L hb_726k f_11_102 p_10_5 dX11_book_33 (fun I_736 hI_736 => ?_)
      refine g_aload_n C 0 dX11_book_36 rfl rfl ?_
      refine g_getR C K hLx hkx f_11_10 hb_726 dX11_book_37 ?_
      refine g_getI C K hb_726L hb_726k f_11_113 (v := 0) (by rw [hI_736, u2_j (by decide)]; exact v_735) dX11_book_40 ?_
      refine t_if_eq C (tgt := 57) (by decide) dX11_book_43 (by decide) ?_
      refine g_aload_n C 0 dX11_book_57 rfl rfl ?_
      obtain ⟨b_737, hb_737, hb_737L, hb_737k⟩ := shp_o (W9 x hLx) hkx 3 1 rfl (by decide)
      refine g_getR C K hLx hkx f_11_32 hb_737 dX11_book_58 ?_
      refine g_aload_n C 0 dX11_book_61 rfl rfl ?_
      obtain ⟨b_738, hb_738, hb_738L, hb_738k⟩ := shp_o (W9 x hLx) hkx 2 1 rfl (by decide)
      refine g_getR C K hLx hkx f_11_28 hb_738 dX11_book_62 ?_
      refine g_callVV C K (c_Course_become W9 hb_737L hb_737k hb_738L hb_738k (((Z1).fk f_732 (by decide)).u2 hI_736 rfl)) hb_737L hb_737k (by decide) rfl v_11_126 rfl ⟨rfl, rfl⟩ ⟨Nat.le_of_ble_eq_true rfl, Nat.le_of_ble_eq_true rfl⟩ (Nat.le_of_ble_eq_true rfl) ⟨Nat.le_of_ble_eq_true rfl, Nat.le_of_ble_eq_true rfl⟩ dX11_book_65 rfl (st := []) (fun I_739 J_740 h_741 => ?_)
      obtain ⟨rfl, f_743, z_745⟩ := h_741
      refine g_aload_n C 0 dX11_book_68 rfl rfl ?_
      refine g_getR C K hLx hkx f_11_52 hb_725 dX11_book_69 ?_
      refine g_aload_n C 0 dX11_book_72 rfl rfl ?_
      refine g_getR C K hLx hkx f_11_32 hb_737 dX11_book_73 ?_
      refine g_callVV C K (c_Book_judgeBy0 hb_725L hb_725k hb_737L hb_737k (by rw [f_743 b_725 4 (by rw [hb_725k]; decide), hI_736, u2_j (by decide)]; exact v_734)) hb_725L hb_725k (by decide) rfl v_11_343 rfl ⟨rfl, rfl⟩ ⟨Nat.le_of_ble_eq_true rfl, Nat.le_of_ble_eq_true rfl⟩ (Nat.le_of_ble_eq_true rfl) ⟨Nat.le_of_ble_eq_true rfl, Nat.le_of_ble_eq_true rfl⟩ dX11_book_76 rfl (st := []) (fun I_746 J_747 h_748 => ?_)
      obtain ⟨rfl, f_750, v_752, v_753⟩ := h_748
      refine g_iload_n C 1 dX11_book_79 rfl rfl ?_
      refine g_iconst C (v := 1) dX11_book_80 (by decide) ?_
      refine n_icmp_ne C (tgt := 113) (by decide) dX11_book_81 (by decide) ?_
      refine g_aload_n C 0 dX11_book_84 rfl rfl ?_
      obtain ⟨b_754, hb_754, hb_754L, hb_754k⟩ := shp_o (W9 x hLx) hkx 4 5 rfl (by decide)
      refine g_getR C K hLx hkx f_11_38 hb_754 dX11_book_85 ?_
      refine g_aload_n C 0 dX11_book_88 rfl rfl ?_
      refine g_getR C K hLx hkx f_11_28 hb_738 dX11_book_89 ?_
      refine g_callVV C K (c_Past_note0 W9 hb_754L hb_754k hb_738L hb_738k ((z_745).fk f_750 (by decide)) (by rw [f_750 b_754 2 (by rw [hb_754k]; decide), f_743 b_754 2 (by rw [hb_754k]; decide), hI_736, u2_j (by decide), f_732 b_754 2 (by rw [hb_754k]; decide)]; exact (by rw [FZ b_754 hb_754L 2, hb_754k]; rfl))) hb_754L hb_754k (by decide) rfl v_11_225 rfl ⟨rfl, rfl⟩ ⟨Nat.le_of_ble_eq_true rfl, Nat.le_of_ble_eq_true rfl⟩ (Nat.le_of_ble_eq_true rfl) ⟨Nat.le_of_ble_eq_true rfl, Nat.le_of_ble_eq_true rfl⟩ dX11_book_92 rfl (st := []) (fun I_755 J_756 h_757 => ?_)
      obtain ⟨rfl, f_759, z_761⟩ := h_757
      refine g_aload_n C 0 dX11_book_95 rfl rfl ?_
      refine g_getR C K hLx hkx f_11_38 hb_754 dX11_book_96 ?_
      refine g_callVV C K (c_Past_keepNoted0 hb_754L hb_754k (by rw [f_759 b_754 1 (by rw [hb_754k]; decide), f_750 b_754 1 (by rw [hb_754k]; decide), f_743 b_754 1 (by rw [hb_754k]; decide), hI_736, u2_j (by decide), f_732 b_754 1 (by rw [hb_754k]; decide)]; exact (by rw [FZ b_754 hb_754L 1, hb_754k]; rfl)) (by rw [f_759 b_754 2 (by rw [hb_754k]; decide), f_750 b_754 2 (by rw [hb_754k]; decide), f_743 b_754 2 (by rw [hb_754k]; decide), hI_736, u2_j (by decide), f_732 b_754 2 (by rw [hb_754k]; decide)]; exact (by rw [FZ b_754 hb_754L 2, hb_754k]; rfl))) hb_754L hb_754k (by decide) rfl v_11_260 rfl ⟨rfl, rfl⟩ ⟨Nat.le_of_ble_eq_true rfl, Nat.le_of_ble_eq_true rfl⟩ (Nat.le_of_ble_eq_true rfl) ⟨Nat.le_of_ble_eq_true rfl, Nat.le_of_ble_eq_true rfl⟩ dX11_book_99 rfl (st := []) (fun I_762 J_763 h_764 => ?_)
      obtain ⟨rfl, f_766⟩ := h_764
      refine g_aload_n C 0 dX11_book_102 rfl rfl ?_
      refine g_getR C K hLx hkx f_11_28 hb_738 dX11_book_103 ?_
      refine g_aload_n C 0 dX11_book_106 rfl rfl ?_
      refine g_getR C K hLx hkx f_11_32 hb_737 dX11_book_107 ?_
      refine g_callVV C K (c_Course_become W9 hb_738L hb_738k hb_737L hb_737k ((z_761).fk f_766 (by decide))) hb_738L hb_738k (by decide) rfl v_11_126 rfl ⟨rfl, rfl⟩ ⟨Nat.le_of_ble_eq_true rfl, Nat.le_of_ble_eq_true rfl⟩ (Nat.le_of_ble_eq_true rfl) ⟨Nat.le_of_ble_eq_true rfl, Nat.le_of_ble_eq_true rfl⟩ dX11_book_110 rfl (st := []) (fun I_768 J_769 h_770 => ?_)
      obtain ⟨rfl, f_772, z_774⟩ := h_770
      refine g_aload_n C 0 dX11_book_113 rfl rfl ?_
      refine g_getR C K hLx hkx f_11_52 hb_725 dX11_book_114 ?_
      refine g_getI C K hb_725L hb_725k f_11_346 (v := 0) (by rw [f_772 b_725 6 (by rw [hb_725k]; decide), f_766 b_725 6 (by rw [hb_725k]; decide), f_759 b_725 6 (by rw [hb_725k]; decide)]; exact v_752) dX11_book_117 ?_
      refine n_if_ne C (tgt := 127) (by decide) dX11_book_120 (by decide) ?_
      refine g_iconst C (v := (-1)) dX11_book_123 (by decide) ?_
      refine g_goto C (tgt := 134) dX11_book_124 (by decide) ?_
      exact g_zret (ty := .int) (r := (-1)) B K rfl rfl (by simp) dX11_book_134
    · skip
      refine g_sipush C (v := (-1000)) dX11_book_9 (by decide) ?_
      exact g_zret (ty := .int) (r := (-1000)) B K rfl rfl (by rw [if_neg (fun q => q.elim (by assumption) (by assumption))]) dX11_book_12
set_option maxRecDepth 100000 in
set_option maxHeartbeats 4000000 in
theorem t_sentence {l : Launch} {D : va_G} {cy : Nat → ClassId} {L : List Nat} {κ ln : Nat → Nat} {R : Nat → Nat → Option Nat} {I : Nat → Nat → Int32} {J : Nat → Nat → Int64} {ow : Nat → Nat × Nat} (W9 : ∀ a ∈ L, Shp L κ ln R ow a) {x : Nat} (hLx : x ∈ L) (hkx : κ x = 11) (FZ : Fz_ L κ I) : CtI l yX11_sentence cX11_sentence 1 (some .int) { frames := 5, cells := 0, slots := 0, locals := 320 } D cy L κ ln R I J [.ref x] (fun r _ _ => r = -1) := by
  refine CtI.of (by decide +kernel) (Nat.le_of_ble_eq_true rfl) ?_
  intro p e s m below meth c B K
  have C := B.1
  have Z1 := fz_Z FZ 1 (by decide) (by decide) (by decide)
  have Z8 := fz_Z FZ 8 (by decide) (by decide) (by decide)
  refine g_lo (is := [0]) (lo2 := [(0, .ref x)]) rfl ?_
  refine g_aload_n C 0 dX11_sentence_0 rfl rfl ?_
  obtain ⟨b_775, hb_775, hb_775L, hb_775k⟩ := shp_o (W9 x hLx) hkx 8 7 rfl (by decide)
  refine g_getR C K hLx hkx f_11_63 hb_775 dX11_sentence_1 ?_
  refine g_aload_n C 0 dX11_sentence_4 rfl rfl ?_
  obtain ⟨b_776, hb_776, hb_776L, hb_776k⟩ := shp_o (W9 x hLx) hkx 0 10 rfl (by decide)
  refine g_getR C K hLx hkx f_11_10 hb_776 dX11_sentence_5 ?_
  refine g_aload_n C 0 dX11_sentence_8 rfl rfl ?_
  obtain ⟨b_777, hb_777, hb_777L, hb_777k⟩ := shp_o (W9 x hLx) hkx 1 8 rfl (by decide)
  refine g_getR C K hLx hkx f_11_19 hb_777 dX11_sentence_9 ?_
  refine g_callVI C K (c_Sen_readFrom0 W9 hb_775L hb_775k hb_776L hb_776k hb_777L hb_777k ((by rw [FZ b_776 hb_776L 5, hb_776k]; rfl))) hb_775L hb_775k (by decide) rfl v_11_362 rfl ⟨rfl, rfl⟩ ⟨Nat.le_of_ble_eq_true rfl, Nat.le_of_ble_eq_true rfl⟩ (Nat.le_of_ble_eq_true rfl) ⟨Nat.le_of_ble_eq_true rfl, Nat.le_of_ble_eq_true rfl⟩ dX11_sentence_12 rfl (st := []) (fun r_781 I_778 J_779 h_780 => ?_)
  obtain ⟨g_783, f_782, v_784, v_785, rfl⟩ := h_780
  refine g_pop C dX11_sentence_15 rfl ?_
  refine g_aload_n C 0 dX11_sentence_16 rfl rfl ?_
  refine g_getR C K hLx hkx f_11_10 hb_776 dX11_sentence_17 ?_
  refine g_iconst C (v := 0) dX11_sentence_20 (by decide) ?_
  refine h_putI C K hb_776L hb_776k f_11_102 p_10_5 dX11_sentence_21 (fun I_786 hI_786 => ?_)
  refine g_aload_n C 0 dX11_sentence_24 rfl rfl ?_
  refine g_getR C K hLx hkx f_11_10 hb_776 dX11_sentence_25 ?_
  refine g_getI C K hb_776L hb_776k f_11_113 (v := 1) (by rw [hI_786, u2_j (by decide)]; exact v_784) dX11_sentence_28 ?_
  refine n_if_eq C (tgt := 44) (by decide) dX11_sentence_31 (by decide) ?_
  refine g_iconst C (v := (-1)) dX11_sentence_34 (by decide) ?_
  refine g_aload_n C 0 dX11_sentence_35 rfl rfl ?_
  refine g_getR C K hLx hkx f_11_10 hb_776 dX11_sentence_36 ?_
  refine g_getI C K hb_776L hb_776k f_11_116 (v := 0) (by rw [hI_786, u2_j (by decide)]; exact v_785) dX11_sentence_39 ?_
  refine g_isub C (v := (-1)) dX11_sentence_42 (by decide) ?_
  exact g_zret (ty := .int) (r := (-1)) B K rfl rfl (rfl) dX11_sentence_43
set_option maxRecDepth 100000 in
set_option maxHeartbeats 4000000 in
theorem t_image {l : Launch} {D : va_G} {cy : Nat → ClassId} {L : List Nat} {κ ln : Nat → Nat} {R : Nat → Nat → Option Nat} {I : Nat → Nat → Int32} {J : Nat → Nat → Int64} {ow : Nat → Nat × Nat} (W9 : ∀ a ∈ L, Shp L κ ln R ow a) {x : Nat} (hLx : x ∈ L) (hkx : κ x = 11) (FZ : Fz_ L κ I) (k : Int32) : CtI l yX11_image cX11_image 2 (some .boolean) { frames := 5, cells := 0, slots := 0, locals := 320 } D cy L κ ln R I J [.ref x, .int k] (fun r _ _ => r = if 0 ≤ k ∧ k ≤ 1 then 1 else 0) := by
  refine CtI.of (by decide +kernel) (Nat.le_of_ble_eq_true rfl) ?_
  intro p e s m below meth c B K
  have C := B.1
  have Z1 := fz_Z FZ 1 (by decide) (by decide) (by decide)
  have Z8 := fz_Z FZ 8 (by decide) (by decide) (by decide)
  refine g_lo (is := [0, 1]) (lo2 := [(0, .ref x), (1, .int k)]) rfl ?_
  refine g_iload_n C 1 dX11_image_0 rfl rfl ?_
  refine g_if_lt C (tgt := 9) dX11_image_1 (by decide) (fun h_787 => ?_) (fun h_787 => ?_)
  · skip
    refine g_iconst C (v := 0) dX11_image_9 (by decide) ?_
    exact g_zret (ty := .boolean) (r := 0) B K rfl (by decide) (by first | exact p_lo (by assumption) | exact p_hi' (e := 2) (by assumption) (by decide) | exact p_hi' (e := 2) (Int32.not_lt.mp (by assumption)) (by decide)) dX11_image_10
  · skip
    refine g_iload_n C 1 dX11_image_4 rfl rfl ?_
    refine g_iconst C (v := 2) dX11_image_5 (by decide) ?_
    refine g_icmp_lt C (tgt := 11) dX11_image_6 (by decide) (fun h_788 => ?_) (fun h_788 => ?_)
    · skip
      obtain ⟨i, hi, rfl⟩ := mk_i h_787 (Int32.not_le.mpr h_788)
      refine g_aload_n C 0 dX11_image_11 rfl rfl ?_
      obtain ⟨b_789, hb_789, hb_789L, hb_789k, hb_789n, hb_789o⟩ := shp_a (W9 x hLx) hkx 12 18 2 rfl (by decide)
      refine g_getR C K hLx hkx f_11_89 hb_789 dX11_image_12 ?_
      refine g_iload_n C 1 dX11_image_15 rfl rfl ?_
      obtain ⟨b_790, hb_790, hb_790L, hb_790k⟩ := (W9 b_789 hb_789L).2.2 hb_789k (i) (by rw [hb_789n]; omega)
      refine h_aaldI C K hb_789L hb_789k (i) (nI_clamp (by omega)) (nI_pos (by omega)) (by rw [hb_789n]; omega) hb_790 dX11_image_16 ?_
      refine g_aload_n C 0 dX11_image_17 rfl rfl ?_
      obtain ⟨b_791, hb_791, hb_791L, hb_791k⟩ := shp_o (W9 x hLx) hkx 1 8 rfl (by decide)
      refine g_getR C K hLx hkx f_11_19 hb_791 dX11_image_18 ?_
      refine g_aload_n C 0 dX11_image_21 rfl rfl ?_
      obtain ⟨b_792, hb_792, hb_792L, hb_792k⟩ := shp_o (W9 x hLx) hkx 2 1 rfl (by decide)
      refine g_getR C K hLx hkx f_11_28 hb_792 dX11_image_22 ?_
      refine g_aload_n C 0 dX11_image_25 rfl rfl ?_
      obtain ⟨b_793, hb_793, hb_793L, hb_793k⟩ := shp_o (W9 x hLx) hkx 7 7 rfl (by decide)
      refine g_getR C K hLx hkx f_11_59 hb_793 dX11_image_26 ?_
      refine g_callVV C K (c_Image_keep0 W9 hb_790L hb_790k hb_791L hb_791k hb_792L hb_792k hb_793L hb_793k Z1 Z8) hb_790L hb_790k (by decide) rfl v_11_379 rfl ⟨rfl, rfl⟩ ⟨Nat.le_of_ble_eq_true rfl, Nat.le_of_ble_eq_true rfl⟩ (Nat.le_of_ble_eq_true rfl) ⟨Nat.le_of_ble_eq_true rfl, Nat.le_of_ble_eq_true rfl⟩ dX11_image_29 rfl (st := []) (fun I_794 J_795 h_796 => ?_)
      obtain ⟨g_799, f_798⟩ := h_796
      refine g_iconst C (v := 1) dX11_image_32 (by decide) ?_
      exact g_zret (ty := .boolean) (r := 1) B K rfl (by decide) (p_in ⟨lt_ge (k := 0) (by omega) (by omega), lt_le (k := 1) (by omega) (by decide)⟩) dX11_image_33
    · skip
      refine g_iconst C (v := 0) dX11_image_9 (by decide) ?_
      exact g_zret (ty := .boolean) (r := 0) B K rfl (by decide) (by first | exact p_lo (by assumption) | exact p_hi' (e := 2) (by assumption) (by decide) | exact p_hi' (e := 2) (Int32.not_lt.mp (by assumption)) (by decide)) dX11_image_10
set_option maxRecDepth 100000 in
set_option maxHeartbeats 4000000 in
theorem t_restore {l : Launch} {D : va_G} {cy : Nat → ClassId} {L : List Nat} {κ ln : Nat → Nat} {R : Nat → Nat → Option Nat} {I : Nat → Nat → Int32} {J : Nat → Nat → Int64} {ow : Nat → Nat × Nat} (W9 : ∀ a ∈ L, Shp L κ ln R ow a) {x : Nat} (hLx : x ∈ L) (hkx : κ x = 11) (FZ : Fz_ L κ I) (k : Int32) : CtI l yX11_restore cX11_restore 2 (some .boolean) { frames := 5, cells := 0, slots := 0, locals := 320 } D cy L κ ln R I J [.ref x, .int k] (fun r _ _ => r = 0) := by
  refine CtI.of (by decide +kernel) (Nat.le_of_ble_eq_true rfl) ?_
  intro p e s m below meth c B K
  have C := B.1
  have Z1 := fz_Z FZ 1 (by decide) (by decide) (by decide)
  have Z8 := fz_Z FZ 8 (by decide) (by decide) (by decide)
  refine g_lo (is := [0, 1]) (lo2 := [(0, .ref x), (1, .int k)]) rfl ?_
  refine g_iload_n C 1 dX11_restore_0 rfl rfl ?_
  refine g_if_lt C (tgt := 21) dX11_restore_1 (by decide) (fun h_800 => ?_) (fun h_800 => ?_)
  · skip
    refine g_iconst C (v := 0) dX11_restore_21 (by decide) ?_
    exact g_zret (ty := .boolean) (r := 0) B K rfl (by decide) (rfl) dX11_restore_22
  · skip
    refine g_iload_n C 1 dX11_restore_4 rfl rfl ?_
    refine g_iconst C (v := 2) dX11_restore_5 (by decide) ?_
    refine g_icmp_ge C (tgt := 21) dX11_restore_6 (by decide) (fun h_801 => ?_) (fun h_801 => ?_)
    · skip
      refine g_iconst C (v := 0) dX11_restore_21 (by decide) ?_
      exact g_zret (ty := .boolean) (r := 0) B K rfl (by decide) (rfl) dX11_restore_22
    · skip
      obtain ⟨i, hi, rfl⟩ := mk_i h_800 h_801
      refine g_aload_n C 0 dX11_restore_9 rfl rfl ?_
      obtain ⟨b_802, hb_802, hb_802L, hb_802k, hb_802n, hb_802o⟩ := shp_a (W9 x hLx) hkx 12 18 2 rfl (by decide)
      refine g_getR C K hLx hkx f_11_89 hb_802 dX11_restore_10 ?_
      refine g_iload_n C 1 dX11_restore_13 rfl rfl ?_
      obtain ⟨b_803, hb_803, hb_803L, hb_803k⟩ := (W9 b_802 hb_802L).2.2 hb_802k (i) (by rw [hb_802n]; omega)
      refine h_aaldI C K hb_802L hb_802k (i) (nI_clamp (by omega)) (nI_pos (by omega)) (by rw [hb_802n]; omega) hb_803 dX11_restore_14 ?_
      refine g_getI C K hb_803L hb_803k f_11_383 (v := 0) ((by rw [FZ b_803 hb_803L 3, hb_803k]; rfl)) dX11_restore_15 ?_
      refine n_if_ne C (tgt := 23) (by decide) dX11_restore_18 (by decide) ?_
      refine g_iconst C (v := 0) dX11_restore_21 (by decide) ?_
      exact g_zret (ty := .boolean) (r := 0) B K rfl (by decide) (rfl) dX11_restore_22
