theorem dX11_book_0 : decode cX11_book 0 = .ok (.iload_n 1, 1) := by decide +kernel
theorem dX11_book_1 : decode cX11_book 1 = .ok (.ifCond .eq 12, 3) := by decide +kernel
theorem dX11_book_4 : decode cX11_book 4 = .ok (.iload_n 1, 1) := by decide +kernel
theorem dX11_book_5 : decode cX11_book 5 = .ok (.iconst 1, 1) := by decide +kernel
theorem dX11_book_6 : decode cX11_book 6 = .ok (.if_icmp .eq 7, 3) := by decide +kernel
theorem dX11_book_9 : decode cX11_book 9 = .ok (.sipush (-1000), 3) := by decide +kernel
theorem dX11_book_12 : decode cX11_book 12 = .ok (.ireturn, 1) := by decide +kernel
theorem dX11_book_13 : decode cX11_book 13 = .ok (.aload_n 0, 1) := by decide +kernel
theorem dX11_book_14 : decode cX11_book 14 = .ok (.getfield 52, 3) := by decide +kernel
theorem dX11_book_17 : decode cX11_book 17 = .ok (.aload_n 0, 1) := by decide +kernel
theorem dX11_book_18 : decode cX11_book 18 = .ok (.getfield 10, 3) := by decide +kernel
theorem dX11_book_21 : decode cX11_book 21 = .ok (.aload_n 0, 1) := by decide +kernel
theorem dX11_book_22 : decode cX11_book 22 = .ok (.getfield 19, 3) := by decide +kernel
theorem dX11_book_25 : decode cX11_book 25 = .ok (.invokevirtual 340, 3) := by decide +kernel
theorem dX11_book_28 : decode cX11_book 28 = .ok (.aload_n 0, 1) := by decide +kernel
theorem dX11_book_29 : decode cX11_book 29 = .ok (.getfield 10, 3) := by decide +kernel
theorem dX11_book_32 : decode cX11_book 32 = .ok (.iconst 0, 1) := by decide +kernel
theorem dX11_book_33 : decode cX11_book 33 = .ok (.putfield 102, 3) := by decide +kernel
theorem dX11_book_36 : decode cX11_book 36 = .ok (.aload_n 0, 1) := by decide +kernel
theorem dX11_book_37 : decode cX11_book 37 = .ok (.getfield 10, 3) := by decide +kernel
theorem dX11_book_40 : decode cX11_book 40 = .ok (.getfield 113, 3) := by decide +kernel
theorem dX11_book_43 : decode cX11_book 43 = .ok (.ifCond .eq 14, 3) := by decide +kernel
theorem dX11_book_57 : decode cX11_book 57 = .ok (.aload_n 0, 1) := by decide +kernel
theorem dX11_book_58 : decode cX11_book 58 = .ok (.getfield 32, 3) := by decide +kernel
theorem dX11_book_61 : decode cX11_book 61 = .ok (.aload_n 0, 1) := by decide +kernel
theorem dX11_book_62 : decode cX11_book 62 = .ok (.getfield 28, 3) := by decide +kernel
theorem dX11_book_65 : decode cX11_book 65 = .ok (.invokevirtual 126, 3) := by decide +kernel
theorem dX11_book_68 : decode cX11_book 68 = .ok (.aload_n 0, 1) := by decide +kernel
theorem dX11_book_69 : decode cX11_book 69 = .ok (.getfield 52, 3) := by decide +kernel
theorem dX11_book_72 : decode cX11_book 72 = .ok (.aload_n 0, 1) := by decide +kernel
theorem dX11_book_73 : decode cX11_book 73 = .ok (.getfield 32, 3) := by decide +kernel
theorem dX11_book_76 : decode cX11_book 76 = .ok (.invokevirtual 343, 3) := by decide +kernel
theorem dX11_book_79 : decode cX11_book 79 = .ok (.iload_n 1, 1) := by decide +kernel
theorem dX11_book_80 : decode cX11_book 80 = .ok (.iconst 1, 1) := by decide +kernel
theorem dX11_book_81 : decode cX11_book 81 = .ok (.if_icmp .ne 32, 3) := by decide +kernel
theorem dX11_book_84 : decode cX11_book 84 = .ok (.aload_n 0, 1) := by decide +kernel
theorem dX11_book_85 : decode cX11_book 85 = .ok (.getfield 38, 3) := by decide +kernel
theorem dX11_book_88 : decode cX11_book 88 = .ok (.aload_n 0, 1) := by decide +kernel
theorem dX11_book_89 : decode cX11_book 89 = .ok (.getfield 28, 3) := by decide +kernel
theorem dX11_book_92 : decode cX11_book 92 = .ok (.invokevirtual 225, 3) := by decide +kernel
theorem dX11_book_95 : decode cX11_book 95 = .ok (.aload_n 0, 1) := by decide +kernel
theorem dX11_book_96 : decode cX11_book 96 = .ok (.getfield 38, 3) := by decide +kernel
theorem dX11_book_99 : decode cX11_book 99 = .ok (.invokevirtual 260, 3) := by decide +kernel
theorem dX11_book_102 : decode cX11_book 102 = .ok (.aload_n 0, 1) := by decide +kernel
theorem dX11_book_103 : decode cX11_book 103 = .ok (.getfield 28, 3) := by decide +kernel
theorem dX11_book_106 : decode cX11_book 106 = .ok (.aload_n 0, 1) := by decide +kernel
theorem dX11_book_107 : decode cX11_book 107 = .ok (.getfield 32, 3) := by decide +kernel
theorem dX11_book_110 : decode cX11_book 110 = .ok (.invokevirtual 126, 3) := by decide +kernel
theorem dX11_book_113 : decode cX11_book 113 = .ok (.aload_n 0, 1) := by decide +kernel
theorem dX11_book_114 : decode cX11_book 114 = .ok (.getfield 52, 3) := by decide +kernel
theorem dX11_book_117 : decode cX11_book 117 = .ok (.getfield 346, 3) := by decide +kernel
theorem dX11_book_120 : decode cX11_book 120 = .ok (.ifCond .ne 7, 3) := by decide +kernel
theorem dX11_book_123 : decode cX11_book 123 = .ok (.iconst (-1), 1) := by decide +kernel
theorem dX11_book_124 : decode cX11_book 124 = .ok (.goto 10, 3) := by decide +kernel
theorem dX11_book_134 : decode cX11_book 134 = .ok (.ireturn, 1) := by decide +kernel
theorem dX11_image_0 : decode cX11_image 0 = .ok (.iload_n 1, 1) := by decide +kernel
theorem dX11_image_1 : decode cX11_image 1 = .ok (.ifCond .lt 8, 3) := by decide +kernel
theorem dX11_image_4 : decode cX11_image 4 = .ok (.iload_n 1, 1) := by decide +kernel
theorem dX11_image_5 : decode cX11_image 5 = .ok (.iconst 2, 1) := by decide +kernel
theorem dX11_image_6 : decode cX11_image 6 = .ok (.if_icmp .lt 5, 3) := by decide +kernel
theorem dX11_image_9 : decode cX11_image 9 = .ok (.iconst 0, 1) := by decide +kernel
theorem dX11_image_10 : decode cX11_image 10 = .ok (.ireturn, 1) := by decide +kernel
theorem dX11_image_11 : decode cX11_image 11 = .ok (.aload_n 0, 1) := by decide +kernel
theorem dX11_image_12 : decode cX11_image 12 = .ok (.getfield 89, 3) := by decide +kernel
theorem dX11_image_15 : decode cX11_image 15 = .ok (.iload_n 1, 1) := by decide +kernel
theorem dX11_image_16 : decode cX11_image 16 = .ok (.aaload, 1) := by decide +kernel
theorem dX11_image_17 : decode cX11_image 17 = .ok (.aload_n 0, 1) := by decide +kernel
theorem dX11_image_18 : decode cX11_image 18 = .ok (.getfield 19, 3) := by decide +kernel
theorem dX11_image_21 : decode cX11_image 21 = .ok (.aload_n 0, 1) := by decide +kernel
theorem dX11_image_22 : decode cX11_image 22 = .ok (.getfield 28, 3) := by decide +kernel
theorem dX11_image_25 : decode cX11_image 25 = .ok (.aload_n 0, 1) := by decide +kernel
theorem dX11_image_26 : decode cX11_image 26 = .ok (.getfield 59, 3) := by decide +kernel
theorem dX11_image_29 : decode cX11_image 29 = .ok (.invokevirtual 379, 3) := by decide +kernel
theorem dX11_image_32 : decode cX11_image 32 = .ok (.iconst 1, 1) := by decide +kernel
theorem dX11_image_33 : decode cX11_image 33 = .ok (.ireturn, 1) := by decide +kernel
theorem dX11_keptIfAny_0 : decode cX11_keptIfAny 0 = .ok (.iload_n 1, 1) := by decide +kernel
theorem dX11_keptIfAny_1 : decode cX11_keptIfAny 1 = .ok (.ifCond .le 10, 3) := by decide +kernel
theorem dX11_keptIfAny_4 : decode cX11_keptIfAny 4 = .ok (.aload_n 0, 1) := by decide +kernel
theorem dX11_keptIfAny_5 : decode cX11_keptIfAny 5 = .ok (.getfield 38, 3) := by decide +kernel
theorem dX11_keptIfAny_8 : decode cX11_keptIfAny 8 = .ok (.invokevirtual 260, 3) := by decide +kernel
theorem dX11_keptIfAny_11 : decode cX11_keptIfAny 11 = .ok (.iload_n 1, 1) := by decide +kernel
theorem dX11_keptIfAny_12 : decode cX11_keptIfAny 12 = .ok (.ireturn, 1) := by decide +kernel
theorem dX11_meals_0 : decode cX11_meals 0 = .ok (.iload_n 1, 1) := by decide +kernel
theorem dX11_meals_1 : decode cX11_meals 1 = .ok (.iconst 1, 1) := by decide +kernel
theorem dX11_meals_2 : decode cX11_meals 2 = .ok (.if_icmp .lt 9, 3) := by decide +kernel
theorem dX11_meals_5 : decode cX11_meals 5 = .ok (.iload_n 1, 1) := by decide +kernel
theorem dX11_meals_6 : decode cX11_meals 6 = .ok (.bipush 60, 2) := by decide +kernel
theorem dX11_meals_8 : decode cX11_meals 8 = .ok (.if_icmp .le 5, 3) := by decide +kernel
theorem dX11_meals_11 : decode cX11_meals 11 = .ok (.iconst (-1), 1) := by decide +kernel
theorem dX11_meals_12 : decode cX11_meals 12 = .ok (.ireturn, 1) := by decide +kernel
theorem dX11_meals_13 : decode cX11_meals 13 = .ok (.aload_n 0, 1) := by decide +kernel
theorem dX11_meals_14 : decode cX11_meals 14 = .ok (.getfield 38, 3) := by decide +kernel
theorem dX11_meals_17 : decode cX11_meals 17 = .ok (.aload_n 0, 1) := by decide +kernel
theorem dX11_meals_18 : decode cX11_meals 18 = .ok (.getfield 28, 3) := by decide +kernel
theorem dX11_meals_21 : decode cX11_meals 21 = .ok (.invokevirtual 225, 3) := by decide +kernel
theorem dX11_meals_24 : decode cX11_meals 24 = .ok (.aload_n 0, 1) := by decide +kernel
theorem dX11_meals_25 : decode cX11_meals 25 = .ok (.aload_n 0, 1) := by decide +kernel
theorem dX11_meals_26 : decode cX11_meals 26 = .ok (.getfield 28, 3) := by decide +kernel
theorem dX11_meals_29 : decode cX11_meals 29 = .ok (.iload_n 1, 1) := by decide +kernel
theorem dX11_meals_30 : decode cX11_meals 30 = .ok (.invokevirtual 250, 3) := by decide +kernel
theorem dX11_meals_33 : decode cX11_meals 33 = .ok (.invokevirtual 253, 3) := by decide +kernel
theorem dX11_meals_36 : decode cX11_meals 36 = .ok (.ireturn, 1) := by decide +kernel
theorem dX11_restore_0 : decode cX11_restore 0 = .ok (.iload_n 1, 1) := by decide +kernel
theorem dX11_restore_1 : decode cX11_restore 1 = .ok (.ifCond .lt 20, 3) := by decide +kernel
theorem dX11_restore_4 : decode cX11_restore 4 = .ok (.iload_n 1, 1) := by decide +kernel
theorem dX11_restore_5 : decode cX11_restore 5 = .ok (.iconst 2, 1) := by decide +kernel
theorem dX11_restore_6 : decode cX11_restore 6 = .ok (.if_icmp .ge 15, 3) := by decide +kernel
theorem dX11_restore_9 : decode cX11_restore 9 = .ok (.aload_n 0, 1) := by decide +kernel
theorem dX11_restore_10 : decode cX11_restore 10 = .ok (.getfield 89, 3) := by decide +kernel
theorem dX11_restore_13 : decode cX11_restore 13 = .ok (.iload_n 1, 1) := by decide +kernel
theorem dX11_restore_14 : decode cX11_restore 14 = .ok (.aaload, 1) := by decide +kernel
theorem dX11_restore_15 : decode cX11_restore 15 = .ok (.getfield 383, 3) := by decide +kernel
theorem dX11_restore_18 : decode cX11_restore 18 = .ok (.ifCond .ne 5, 3) := by decide +kernel
theorem dX11_restore_21 : decode cX11_restore 21 = .ok (.iconst 0, 1) := by decide +kernel
theorem dX11_restore_22 : decode cX11_restore 22 = .ok (.ireturn, 1) := by decide +kernel
theorem dX11_sentence_0 : decode cX11_sentence 0 = .ok (.aload_n 0, 1) := by decide +kernel
theorem dX11_sentence_1 : decode cX11_sentence 1 = .ok (.getfield 63, 3) := by decide +kernel
theorem dX11_sentence_4 : decode cX11_sentence 4 = .ok (.aload_n 0, 1) := by decide +kernel
theorem dX11_sentence_5 : decode cX11_sentence 5 = .ok (.getfield 10, 3) := by decide +kernel
theorem dX11_sentence_8 : decode cX11_sentence 8 = .ok (.aload_n 0, 1) := by decide +kernel
theorem dX11_sentence_9 : decode cX11_sentence 9 = .ok (.getfield 19, 3) := by decide +kernel
theorem dX11_sentence_12 : decode cX11_sentence 12 = .ok (.invokevirtual 362, 3) := by decide +kernel
theorem dX11_sentence_15 : decode cX11_sentence 15 = .ok (.pop, 1) := by decide +kernel
theorem dX11_sentence_16 : decode cX11_sentence 16 = .ok (.aload_n 0, 1) := by decide +kernel
theorem dX11_sentence_17 : decode cX11_sentence 17 = .ok (.getfield 10, 3) := by decide +kernel
theorem dX11_sentence_20 : decode cX11_sentence 20 = .ok (.iconst 0, 1) := by decide +kernel
theorem dX11_sentence_21 : decode cX11_sentence 21 = .ok (.putfield 102, 3) := by decide +kernel
theorem dX11_sentence_24 : decode cX11_sentence 24 = .ok (.aload_n 0, 1) := by decide +kernel
theorem dX11_sentence_25 : decode cX11_sentence 25 = .ok (.getfield 10, 3) := by decide +kernel
theorem dX11_sentence_28 : decode cX11_sentence 28 = .ok (.getfield 113, 3) := by decide +kernel
theorem dX11_sentence_31 : decode cX11_sentence 31 = .ok (.ifCond .eq 13, 3) := by decide +kernel
theorem dX11_sentence_34 : decode cX11_sentence 34 = .ok (.iconst (-1), 1) := by decide +kernel
theorem dX11_sentence_35 : decode cX11_sentence 35 = .ok (.aload_n 0, 1) := by decide +kernel
theorem dX11_sentence_36 : decode cX11_sentence 36 = .ok (.getfield 10, 3) := by decide +kernel
theorem dX11_sentence_39 : decode cX11_sentence 39 = .ok (.getfield 116, 3) := by decide +kernel
theorem dX11_sentence_42 : decode cX11_sentence 42 = .ok (.isub, 1) := by decide +kernel
theorem dX11_sentence_43 : decode cX11_sentence 43 = .ok (.ireturn, 1) := by decide +kernel
set_option maxRecDepth 100000 in
set_option maxHeartbeats 4000000 in
theorem c_keptIfAny {l : Launch} {D : va_G} {cy : Nat → ClassId} {L : List Nat} {κ ln : Nat → Nat} {R : Nat → Nat → Option Nat} {I : Nat → Nat → Int32} {J : Nat → Nat → Int64} {ow : Nat → Nat × Nat} (W9 : ∀ a ∈ L, Shp L κ ln R ow a) {x : Nat} (hLx : x ∈ L) (hkx : κ x = 11) (N : Nat) (h0 : 1 ≤ N ∧ N ≤ 60) (h1 : ∀ b, R x 4 = some b → I b 1 = 0) (h2 : ∀ b, R x 4 = some b → I b 2 = 0) : CtI l yX11_keptIfAny cX11_keptIfAny 2 (some .int) { frames := 2, cells := 0, slots := 0, locals := 150 } D cy L κ ln R I J [.ref x, .int (nI N)] (fun r _ _ => r = nI N) := by
  refine CtI.of (by decide +kernel) (Nat.le_of_ble_eq_true rfl) ?_
  intro p e s m below meth c B K
  have C := B.1
  refine g_lo (is := [0, 1]) (lo2 := [(0, .ref x), (1, .int (nI N))]) rfl ?_
  refine g_iload_n C 1 dX11_keptIfAny_0 rfl rfl ?_
  refine n_if_le C (tgt := 11) (ln_le (n := N) (k := 0) (by omega) (by omega)) dX11_keptIfAny_1 (by decide) ?_
  refine g_aload_n C 0 dX11_keptIfAny_4 rfl rfl ?_
  obtain ⟨b_670, hb_670, hb_670L, hb_670k⟩ := shp_o (W9 x hLx) hkx 4 5 rfl (by decide)
  refine g_getR C K hLx hkx f_11_38 hb_670 dX11_keptIfAny_5 ?_
  refine g_callVV C K (c_Past_keepNoted0 hb_670L hb_670k (h1 b_670 hb_670) (h2 b_670 hb_670)) hb_670L hb_670k (by decide) rfl v_11_260 rfl ⟨rfl, rfl⟩ ⟨Nat.le_of_ble_eq_true rfl, Nat.le_of_ble_eq_true rfl⟩ (Nat.le_of_ble_eq_true rfl) ⟨Nat.le_of_ble_eq_true rfl, Nat.le_of_ble_eq_true rfl⟩ dX11_keptIfAny_8 rfl (st := []) (fun I_671 J_672 h_673 => ?_)
  obtain ⟨rfl, f_675⟩ := h_673
  refine g_iload_n C 1 dX11_keptIfAny_11 rfl rfl ?_
  exact g_zret (ty := .int) (r := nI N) B K rfl rfl (rfl) dX11_keptIfAny_12
set_option maxRecDepth 100000 in
set_option maxHeartbeats 4000000 in
theorem t_meals {l : Launch} {D : va_G} {cy : Nat → ClassId} {L : List Nat} {κ ln : Nat → Nat} {R : Nat → Nat → Option Nat} {I : Nat → Nat → Int32} {J : Nat → Nat → Int64} {ow : Nat → Nat × Nat} (W9 : ∀ a ∈ L, Shp L κ ln R ow a) {x : Nat} (hLx : x ∈ L) (hkx : κ x = 11) (FZ : Fz_ L κ I) (n : Int32) : CtI l yX11_meals cX11_meals 2 (some .int) { frames := 5, cells := 0, slots := 0, locals := 320 } D cy L κ ln R I J [.ref x, .int n] (fun r _ _ => r = if 1 ≤ n ∧ n ≤ 60 then n else -1) := by
  refine CtI.of (by decide +kernel) (Nat.le_of_ble_eq_true rfl) ?_
  intro p e s m below meth c B K
  have C := B.1
  have Z1 := fz_Z FZ 1 (by decide) (by decide) (by decide)
  have Z8 := fz_Z FZ 8 (by decide) (by decide) (by decide)
  refine g_lo (is := [0, 1]) (lo2 := [(0, .ref x), (1, .int n)]) rfl ?_
  refine g_iload_n C 1 dX11_meals_0 rfl rfl ?_
  refine g_iconst C (v := 1) dX11_meals_1 (by decide) ?_
  refine g_icmp_lt C (tgt := 11) dX11_meals_2 (by decide) (fun h_677 => ?_) (fun h_677 => ?_)
  · skip
    refine g_iconst C (v := (-1)) dX11_meals_11 (by decide) ?_
    exact g_zret (ty := .int) (r := (-1)) B K rfl rfl (by first | exact p_lo (by assumption) | exact p_hi (Int32.not_le.mp (by assumption))) dX11_meals_12
  · skip
    refine g_iload_n C 1 dX11_meals_5 rfl rfl ?_
    refine g_bipush C (v := 60) dX11_meals_6 (by decide) ?_
    refine g_icmp_le C (tgt := 13) dX11_meals_8 (by decide) (fun h_678 => ?_) (fun h_678 => ?_)
    · skip
      obtain ⟨N, hN, rfl⟩ := mk_N h_677 (fun q => Int32.lt_irrefl (Int32.lt_of_lt_of_le q h_678))
      refine g_aload_n C 0 dX11_meals_13 rfl rfl ?_
      obtain ⟨b_679, hb_679, hb_679L, hb_679k⟩ := shp_o (W9 x hLx) hkx 4 5 rfl (by decide)
      refine g_getR C K hLx hkx f_11_38 hb_679 dX11_meals_14 ?_
      refine g_aload_n C 0 dX11_meals_17 rfl rfl ?_
      obtain ⟨b_680, hb_680, hb_680L, hb_680k⟩ := shp_o (W9 x hLx) hkx 2 1 rfl (by decide)
      refine g_getR C K hLx hkx f_11_28 hb_680 dX11_meals_18 ?_
      refine g_callVV C K (c_Past_note0 W9 hb_679L hb_679k hb_680L hb_680k (Z1) ((by rw [FZ b_679 hb_679L 2, hb_679k]; rfl))) hb_679L hb_679k (by decide) rfl v_11_225 rfl ⟨rfl, rfl⟩ ⟨Nat.le_of_ble_eq_true rfl, Nat.le_of_ble_eq_true rfl⟩ (Nat.le_of_ble_eq_true rfl) ⟨Nat.le_of_ble_eq_true rfl, Nat.le_of_ble_eq_true rfl⟩ dX11_meals_21 rfl (st := []) (fun I_681 J_682 h_683 => ?_)
      obtain ⟨rfl, f_685, z_687⟩ := h_683
      refine g_aload_n C 0 dX11_meals_24 rfl rfl ?_
      refine g_aload_n C 0 dX11_meals_25 rfl rfl ?_
      refine g_getR C K hLx hkx f_11_28 hb_680 dX11_meals_26 ?_
      refine g_iload_n C 1 dX11_meals_29 rfl rfl ?_
      refine g_callVI C K (c_Course_letMealsGo0 W9 hb_680L hb_680k ((Z8).fk f_685 (by decide)) N hN.2 (z_687 b_680 hb_680L hb_680k 9)) hb_680L hb_680k (by decide) rfl v_11_250 rfl ⟨rfl, rfl⟩ ⟨Nat.le_of_ble_eq_true rfl, Nat.le_of_ble_eq_true rfl⟩ (Nat.le_of_ble_eq_true rfl) ⟨Nat.le_of_ble_eq_true rfl, Nat.le_of_ble_eq_true rfl⟩ dX11_meals_30 rfl (st := [.ref x]) (fun r_691 I_688 J_689 h_690 => ?_)
      obtain ⟨rfl, f_692, rfl⟩ := h_690
      refine g_callVI C K (c_keptIfAny W9 hLx hkx N hN (fun b hb => by rw [hb_679] at hb; cases hb; exact (by rw [f_692 b_679 1 (by rw [hb_679k]; decide), f_685 b_679 1 (by rw [hb_679k]; decide)]; exact (by rw [FZ b_679 hb_679L 1, hb_679k]; rfl))) (fun b hb => by rw [hb_679] at hb; cases hb; exact (by rw [f_692 b_679 2 (by rw [hb_679k]; decide), f_685 b_679 2 (by rw [hb_679k]; decide)]; exact (by rw [FZ b_679 hb_679L 2, hb_679k]; rfl)))) hLx hkx (by decide) rfl v_11_253 rfl ⟨rfl, rfl⟩ ⟨Nat.le_of_ble_eq_true rfl, Nat.le_of_ble_eq_true rfl⟩ (Nat.le_of_ble_eq_true rfl) ⟨Nat.le_of_ble_eq_true rfl, Nat.le_of_ble_eq_true rfl⟩ dX11_meals_33 rfl (st := []) (fun r_697 I_694 J_695 h_696 => ?_)
      subst h_696
      exact g_zret (ty := .int) (r := nI N) B K rfl rfl (by rw [if_pos ⟨lt_ge (k := 1) hN.1 (by omega), lt_le (k := 60) hN.2 (by decide)⟩]) dX11_meals_36
    · skip
      refine g_iconst C (v := (-1)) dX11_meals_11 (by decide) ?_
      exact g_zret (ty := .int) (r := (-1)) B K rfl rfl (by first | exact p_lo (by assumption) | exact p_hi (Int32.not_le.mp (by assumption))) dX11_meals_12
set_option maxRecDepth 100000 in
set_option maxHeartbeats 4000000 in
theorem t_book {l : Launch} {D : va_G} {cy : Nat → ClassId} {L : List Nat} {κ ln : Nat → Nat} {R : Nat → Nat → Option Nat} {I : Nat → Nat → Int32} {J : Nat → Nat → Int64} {ow : Nat → Nat × Nat} (W9 : ∀ a ∈ L, Shp L κ ln R ow a) {x : Nat} (hLx : x ∈ L) (hkx : κ x = 11) (FZ : Fz_ L κ I) (v : Int32) : CtI l yX11_book cX11_book 2 (some .int) { frames := 5, cells := 0, slots := 0, locals := 320 } D cy L κ ln R I J [.ref x, .int v] (fun r _ _ => r = if v = 0 ∨ v = 1 then -1 else -1000) := by
  refine CtI.of (by decide +kernel) (Nat.le_of_ble_eq_true rfl) ?_
  intro p e s m below meth c B K
  have C := B.1
  have Z1 := fz_Z FZ 1 (by decide) (by decide) (by decide)
  have Z8 := fz_Z FZ 8 (by decide) (by decide) (by decide)
  refine g_lo (is := [0, 1]) (lo2 := [(0, .ref x), (1, .int v)]) rfl ?_
  refine g_iload_n C 1 dX11_book_0 rfl rfl ?_
  refine g_if_eq C (tgt := 13) dX11_book_1 (by decide) (fun h_698 => ?_) (fun h_698 => ?_)
  · skip
    subst h_698
    refine g_aload_n C 0 dX11_book_13 rfl rfl ?_
    obtain ⟨b_699, hb_699, hb_699L, hb_699k⟩ := shp_o (W9 x hLx) hkx 6 0 rfl (by decide)
    refine g_getR C K hLx hkx f_11_52 hb_699 dX11_book_14 ?_
    refine g_aload_n C 0 dX11_book_17 rfl rfl ?_
    obtain ⟨b_700, hb_700, hb_700L, hb_700k⟩ := shp_o (W9 x hLx) hkx 0 10 rfl (by decide)
    refine g_getR C K hLx hkx f_11_10 hb_700 dX11_book_18 ?_
    refine g_aload_n C 0 dX11_book_21 rfl rfl ?_
    obtain ⟨b_701, hb_701, hb_701L, hb_701k⟩ := shp_o (W9 x hLx) hkx 1 8 rfl (by decide)
    refine g_getR C K hLx hkx f_11_19 hb_701 dX11_book_22 ?_
    refine g_callVV C K (c_Book_readFrom0 W9 hb_699L hb_699k hb_700L hb_700k hb_701L hb_701k ((by rw [FZ b_700 hb_700L 5, hb_700k]; rfl))) hb_699L hb_699k (by decide) rfl v_11_340 rfl ⟨rfl, rfl⟩ ⟨Nat.le_of_ble_eq_true rfl, Nat.le_of_ble_eq_true rfl⟩ (Nat.le_of_ble_eq_true rfl) ⟨Nat.le_of_ble_eq_true rfl, Nat.le_of_ble_eq_true rfl⟩ dX11_book_25 rfl (st := []) (fun I_702 J_703 h_704 => ?_)
    obtain ⟨g_707, f_706, v_708, v_709⟩ := h_704
    refine g_aload_n C 0 dX11_book_28 rfl rfl ?_
    refine g_getR C K hLx hkx f_11_10 hb_700 dX11_book_29 ?_
    refine g_iconst C (v := 0) dX11_book_32 (by decide) ?_
    refine h_putI C K hb_700L hb_700k f_11_102 p_10_5 dX11_book_33 (fun I_710 hI_710 => ?_)
    refine g_aload_n C 0 dX11_book_36 rfl rfl ?_
    refine g_getR C K hLx hkx f_11_10 hb_700 dX11_book_37 ?_
    refine g_getI C K hb_700L hb_700k f_11_113 (v := 0) (by rw [hI_710, u2_j (by decide)]; exact v_709) dX11_book_40 ?_
    refine t_if_eq C (tgt := 57) (by decide) dX11_book_43 (by decide) ?_
    refine g_aload_n C 0 dX11_book_57 rfl rfl ?_
    obtain ⟨b_711, hb_711, hb_711L, hb_711k⟩ := shp_o (W9 x hLx) hkx 3 1 rfl (by decide)
    refine g_getR C K hLx hkx f_11_32 hb_711 dX11_book_58 ?_
    refine g_aload_n C 0 dX11_book_61 rfl rfl ?_
    obtain ⟨b_712, hb_712, hb_712L, hb_712k⟩ := shp_o (W9 x hLx) hkx 2 1 rfl (by decide)
    refine g_getR C K hLx hkx f_11_28 hb_712 dX11_book_62 ?_
    refine g_callVV C K (c_Course_become W9 hb_711L hb_711k hb_712L hb_712k (((Z1).fk f_706 (by decide)).u2 hI_710 rfl)) hb_711L hb_711k (by decide) rfl v_11_126 rfl ⟨rfl, rfl⟩ ⟨Nat.le_of_ble_eq_true rfl, Nat.le_of_ble_eq_true rfl⟩ (Nat.le_of_ble_eq_true rfl) ⟨Nat.le_of_ble_eq_true rfl, Nat.le_of_ble_eq_true rfl⟩ dX11_book_65 rfl (st := []) (fun I_713 J_714 h_715 => ?_)
    obtain ⟨rfl, f_717, z_719⟩ := h_715
    refine g_aload_n C 0 dX11_book_68 rfl rfl ?_
    refine g_getR C K hLx hkx f_11_52 hb_699 dX11_book_69 ?_
    refine g_aload_n C 0 dX11_book_72 rfl rfl ?_
    refine g_getR C K hLx hkx f_11_32 hb_711 dX11_book_73 ?_
    refine g_callVV C K (c_Book_judgeBy0 hb_699L hb_699k hb_711L hb_711k (by rw [f_717 b_699 4 (by rw [hb_699k]; decide), hI_710, u2_j (by decide)]; exact v_708)) hb_699L hb_699k (by decide) rfl v_11_343 rfl ⟨rfl, rfl⟩ ⟨Nat.le_of_ble_eq_true rfl, Nat.le_of_ble_eq_true rfl⟩ (Nat.le_of_ble_eq_true rfl) ⟨Nat.le_of_ble_eq_true rfl, Nat.le_of_ble_eq_true rfl⟩ dX11_book_76 rfl (st := []) (fun I_720 J_721 h_722 => ?_)
    obtain ⟨rfl, f_724, v_726, v_727⟩ := h_722
    refine g_iload_n C 1 dX11_book_79 rfl rfl ?_
    refine g_iconst C (v := 1) dX11_book_80 (by decide) ?_
    refine t_icmp_ne C (tgt := 113) (by decide) dX11_book_81 (by decide) ?_
    refine g_aload_n C 0 dX11_book_113 rfl rfl ?_
    refine g_getR C K hLx hkx f_11_52 hb_699 dX11_book_114 ?_
    refine g_getI C K hb_699L hb_699k f_11_346 (v := 0) (v_726) dX11_book_117 ?_
    refine n_if_ne C (tgt := 127) (by decide) dX11_book_120 (by decide) ?_
    refine g_iconst C (v := (-1)) dX11_book_123 (by decide) ?_
    refine g_goto C (tgt := 134) dX11_book_124 (by decide) ?_
    exact g_zret (ty := .int) (r := (-1)) B K rfl rfl (by simp) dX11_book_134
  · skip
    refine g_iload_n C 1 dX11_book_4 rfl rfl ?_
    refine g_iconst C (v := 1) dX11_book_5 (by decide) ?_
    refine g_icmp_eq C (tgt := 13) dX11_book_6 (by decide) (fun h_728 => ?_) (fun h_728 => ?_)
    · skip
      subst h_728
      refine g_aload_n C 0 dX11_book_13 rfl rfl ?_
      obtain ⟨b_729, hb_729, hb_729L, hb_729k⟩ := shp_o (W9 x hLx) hkx 6 0 rfl (by decide)
      refine g_getR C K hLx hkx f_11_52 hb_729 dX11_book_14 ?_
      refine g_aload_n C 0 dX11_book_17 rfl rfl ?_
      obtain ⟨b_730, hb_730, hb_730L, hb_730k⟩ := shp_o (W9 x hLx) hkx 0 10 rfl (by decide)
      refine g_getR C K hLx hkx f_11_10 hb_730 dX11_book_18 ?_
      refine g_aload_n C 0 dX11_book_21 rfl rfl ?_
      obtain ⟨b_731, hb_731, hb_731L, hb_731k⟩ := shp_o (W9 x hLx) hkx 1 8 rfl (by decide)
      refine g_getR C K hLx hkx f_11_19 hb_731 dX11_book_22 ?_
      refine g_callVV C K (c_Book_readFrom0 W9 hb_729L hb_729k hb_730L hb_730k hb_731L hb_731k ((by rw [FZ b_730 hb_730L 5, hb_730k]; rfl))) hb_729L hb_729k (by decide) rfl v_11_340 rfl ⟨rfl, rfl⟩ ⟨Nat.le_of_ble_eq_true rfl, Nat.le_of_ble_eq_true rfl⟩ (Nat.le_of_ble_eq_true rfl) ⟨Nat.le_of_ble_eq_true rfl, Nat.le_of_ble_eq_true rfl⟩ dX11_book_25 rfl (st := []) (fun I_732 J_733 h_734 => ?_)
      obtain ⟨g_737, f_736, v_738, v_739⟩ := h_734
      refine g_aload_n C 0 dX11_book_28 rfl rfl ?_
      refine g_getR C K hLx hkx f_11_10 hb_730 dX11_book_29 ?_
      refine g_iconst C (v := 0) dX11_book_32 (by decide) ?_
      refine h_putI C K hb_730L hb_730k f_11_102 p_10_5 dX11_book_33 (fun I_740 hI_740 => ?_)
      refine g_aload_n C 0 dX11_book_36 rfl rfl ?_
      refine g_getR C K hLx hkx f_11_10 hb_730 dX11_book_37 ?_
      refine g_getI C K hb_730L hb_730k f_11_113 (v := 0) (by rw [hI_740, u2_j (by decide)]; exact v_739) dX11_book_40 ?_
      refine t_if_eq C (tgt := 57) (by decide) dX11_book_43 (by decide) ?_
      refine g_aload_n C 0 dX11_book_57 rfl rfl ?_
      obtain ⟨b_741, hb_741, hb_741L, hb_741k⟩ := shp_o (W9 x hLx) hkx 3 1 rfl (by decide)
      refine g_getR C K hLx hkx f_11_32 hb_741 dX11_book_58 ?_
      refine g_aload_n C 0 dX11_book_61 rfl rfl ?_
      obtain ⟨b_742, hb_742, hb_742L, hb_742k⟩ := shp_o (W9 x hLx) hkx 2 1 rfl (by decide)
      refine g_getR C K hLx hkx f_11_28 hb_742 dX11_book_62 ?_
      refine g_callVV C K (c_Course_become W9 hb_741L hb_741k hb_742L hb_742k (((Z1).fk f_736 (by decide)).u2 hI_740 rfl)) hb_741L hb_741k (by decide) rfl v_11_126 rfl ⟨rfl, rfl⟩ ⟨Nat.le_of_ble_eq_true rfl, Nat.le_of_ble_eq_true rfl⟩ (Nat.le_of_ble_eq_true rfl) ⟨Nat.le_of_ble_eq_true rfl, Nat.le_of_ble_eq_true rfl⟩ dX11_book_65 rfl (st := []) (fun I_743 J_744 h_745 => ?_)
      obtain ⟨rfl, f_747, z_749⟩ := h_745
      refine g_aload_n C 0 dX11_book_68 rfl rfl ?_
      refine g_getR C K hLx hkx f_11_52 hb_729 dX11_book_69 ?_
      refine g_aload_n C 0 dX11_book_72 rfl rfl ?_
      refine g_getR C K hLx hkx f_11_32 hb_741 dX11_book_73 ?_
      refine g_callVV C K (c_Book_judgeBy0 hb_729L hb_729k hb_741L hb_741k (by rw [f_747 b_729 4 (by rw [hb_729k]; decide), hI_740, u2_j (by decide)]; exact v_738)) hb_729L hb_729k (by decide) rfl v_11_343 rfl ⟨rfl, rfl⟩ ⟨Nat.le_of_ble_eq_true rfl, Nat.le_of_ble_eq_true rfl⟩ (Nat.le_of_ble_eq_true rfl) ⟨Nat.le_of_ble_eq_true rfl, Nat.le_of_ble_eq_true rfl⟩ dX11_book_76 rfl (st := []) (fun I_750 J_751 h_752 => ?_)
      obtain ⟨rfl, f_754, v_756, v_757⟩ := h_752
      refine g_iload_n C 1 dX11_book_79 rfl rfl ?_
      refine g_iconst C (v := 1) dX11_book_80 (by decide) ?_
      refine n_icmp_ne C (tgt := 113) (by decide) dX11_book_81 (by decide) ?_
      refine g_aload_n C 0 dX11_book_84 rfl rfl ?_
      obtain ⟨b_758, hb_758, hb_758L, hb_758k⟩ := shp_o (W9 x hLx) hkx 4 5 rfl (by decide)
      refine g_getR C K hLx hkx f_11_38 hb_758 dX11_book_85 ?_
      refine g_aload_n C 0 dX11_book_88 rfl rfl ?_
      refine g_getR C K hLx hkx f_11_28 hb_742 dX11_book_89 ?_
      refine g_callVV C K (c_Past_note0 W9 hb_758L hb_758k hb_742L hb_742k ((z_749).fk f_754 (by decide)) (by rw [f_754 b_758 2 (by rw [hb_758k]; decide), f_747 b_758 2 (by rw [hb_758k]; decide), hI_740, u2_j (by decide), f_736 b_758 2 (by rw [hb_758k]; decide)]; exact (by rw [FZ b_758 hb_758L 2, hb_758k]; rfl))) hb_758L hb_758k (by decide) rfl v_11_225 rfl ⟨rfl, rfl⟩ ⟨Nat.le_of_ble_eq_true rfl, Nat.le_of_ble_eq_true rfl⟩ (Nat.le_of_ble_eq_true rfl) ⟨Nat.le_of_ble_eq_true rfl, Nat.le_of_ble_eq_true rfl⟩ dX11_book_92 rfl (st := []) (fun I_759 J_760 h_761 => ?_)
      obtain ⟨rfl, f_763, z_765⟩ := h_761
      refine g_aload_n C 0 dX11_book_95 rfl rfl ?_
      refine g_getR C K hLx hkx f_11_38 hb_758 dX11_book_96 ?_
      refine g_callVV C K (c_Past_keepNoted0 hb_758L hb_758k (by rw [f_763 b_758 1 (by rw [hb_758k]; decide), f_754 b_758 1 (by rw [hb_758k]; decide), f_747 b_758 1 (by rw [hb_758k]; decide), hI_740, u2_j (by decide), f_736 b_758 1 (by rw [hb_758k]; decide)]; exact (by rw [FZ b_758 hb_758L 1, hb_758k]; rfl)) (by rw [f_763 b_758 2 (by rw [hb_758k]; decide), f_754 b_758 2 (by rw [hb_758k]; decide), f_747 b_758 2 (by rw [hb_758k]; decide), hI_740, u2_j (by decide), f_736 b_758 2 (by rw [hb_758k]; decide)]; exact (by rw [FZ b_758 hb_758L 2, hb_758k]; rfl))) hb_758L hb_758k (by decide) rfl v_11_260 rfl ⟨rfl, rfl⟩ ⟨Nat.le_of_ble_eq_true rfl, Nat.le_of_ble_eq_true rfl⟩ (Nat.le_of_ble_eq_true rfl) ⟨Nat.le_of_ble_eq_true rfl, Nat.le_of_ble_eq_true rfl⟩ dX11_book_99 rfl (st := []) (fun I_766 J_767 h_768 => ?_)
      obtain ⟨rfl, f_770⟩ := h_768
      refine g_aload_n C 0 dX11_book_102 rfl rfl ?_
      refine g_getR C K hLx hkx f_11_28 hb_742 dX11_book_103 ?_
      refine g_aload_n C 0 dX11_book_106 rfl rfl ?_
      refine g_getR C K hLx hkx f_11_32 hb_741 dX11_book_107 ?_
      refine g_callVV C K (c_Course_become W9 hb_742L hb_742k hb_741L hb_741k ((z_765).fk f_770 (by decide))) hb_742L hb_742k (by decide) rfl v_11_126 rfl ⟨rfl, rfl⟩ ⟨Nat.le_of_ble_eq_true rfl, Nat.le_of_ble_eq_true rfl⟩ (Nat.le_of_ble_eq_true rfl) ⟨Nat.le_of_ble_eq_true rfl, Nat.le_of_ble_eq_true rfl⟩ dX11_book_110 rfl (st := []) (fun I_772 J_773 h_774 => ?_)
      obtain ⟨rfl, f_776, z_778⟩ := h_774
      refine g_aload_n C 0 dX11_book_113 rfl rfl ?_
      refine g_getR C K hLx hkx f_11_52 hb_729 dX11_book_114 ?_
      refine g_getI C K hb_729L hb_729k f_11_346 (v := 0) (by rw [f_776 b_729 6 (by rw [hb_729k]; decide), f_770 b_729 6 (by rw [hb_729k]; decide), f_763 b_729 6 (by rw [hb_729k]; decide)]; exact v_756) dX11_book_117 ?_
      refine n_if_ne C (tgt := 127) (by decide) dX11_book_120 (by decide) ?_
      refine g_iconst C (v := (-1)) dX11_book_123 (by decide) ?_
      refine g_goto C (tgt := 134) dX11_book_124 (by decide) ?_
      exact g_zret (ty := .int) (r := (-1)) B K rfl rfl (by simp) dX11_book_134
    · skip
      refine g_sipush C (v := (-1000)) dX11_book_9 (by decide) ?_
      exact g_zret (ty := .int) (r := (-1000)) B K rfl rfl (by rw [if_neg (fun q => q.elim (by assumption) (by assumption))]) dX11_book_12
set_option maxRecDepth 100000 in
set_option maxHeartbeats 4000000 in
theorem t_sentence {l : Launch} {D : va_G} {cy : Nat → ClassId} {L : List Nat} {κ ln : Nat → Nat} {R : Nat → Nat → Option Nat} {I : Nat → Nat → Int32} {J : Nat → Nat → Int64} {ow : Nat → Nat × Nat} (W9 : ∀ a ∈ L, Shp L κ ln R ow a) {x : Nat} (hLx : x ∈ L) (hkx : κ x = 11) (FZ : Fz_ L κ I) : CtI l yX11_sentence cX11_sentence 1 (some .int) { frames := 5, cells := 0, slots := 0, locals := 320 } D cy L κ ln R I J [.ref x] (fun r _ _ => r = -1) := by
  refine CtI.of (by decide +kernel) (Nat.le_of_ble_eq_true rfl) ?_
  intro p e s m below meth c B K
  have C := B.1
  have Z1 := fz_Z FZ 1 (by decide) (by decide) (by decide)
  have Z8 := fz_Z FZ 8 (by decide) (by decide) (by decide)
  refine g_lo (is := [0]) (lo2 := [(0, .ref x)]) rfl ?_
  refine g_aload_n C 0 dX11_sentence_0 rfl rfl ?_
  obtain ⟨b_779, hb_779, hb_779L, hb_779k⟩ := shp_o (W9 x hLx) hkx 8 7 rfl (by decide)
  refine g_getR C K hLx hkx f_11_63 hb_779 dX11_sentence_1 ?_
  refine g_aload_n C 0 dX11_sentence_4 rfl rfl ?_
  obtain ⟨b_780, hb_780, hb_780L, hb_780k⟩ := shp_o (W9 x hLx) hkx 0 10 rfl (by decide)
  refine g_getR C K hLx hkx f_11_10 hb_780 dX11_sentence_5 ?_
  refine g_aload_n C 0 dX11_sentence_8 rfl rfl ?_
  obtain ⟨b_781, hb_781, hb_781L, hb_781k⟩ := shp_o (W9 x hLx) hkx 1 8 rfl (by decide)
  refine g_getR C K hLx hkx f_11_19 hb_781 dX11_sentence_9 ?_
  refine g_callVI C K (c_Sen_readFrom0 W9 hb_779L hb_779k hb_780L hb_780k hb_781L hb_781k ((by rw [FZ b_780 hb_780L 5, hb_780k]; rfl))) hb_779L hb_779k (by decide) rfl v_11_362 rfl ⟨rfl, rfl⟩ ⟨Nat.le_of_ble_eq_true rfl, Nat.le_of_ble_eq_true rfl⟩ (Nat.le_of_ble_eq_true rfl) ⟨Nat.le_of_ble_eq_true rfl, Nat.le_of_ble_eq_true rfl⟩ dX11_sentence_12 rfl (st := []) (fun r_785 I_782 J_783 h_784 => ?_)
  obtain ⟨g_787, f_786, v_788, v_789, rfl⟩ := h_784
  refine g_pop C dX11_sentence_15 rfl ?_
  refine g_aload_n C 0 dX11_sentence_16 rfl rfl ?_
  refine g_getR C K hLx hkx f_11_10 hb_780 dX11_sentence_17 ?_
  refine g_iconst C (v := 0) dX11_sentence_20 (by decide) ?_
  refine h_putI C K hb_780L hb_780k f_11_102 p_10_5 dX11_sentence_21 (fun I_790 hI_790 => ?_)
  refine g_aload_n C 0 dX11_sentence_24 rfl rfl ?_
  refine g_getR C K hLx hkx f_11_10 hb_780 dX11_sentence_25 ?_
  refine g_getI C K hb_780L hb_780k f_11_113 (v := 1) (by rw [hI_790, u2_j (by decide)]; exact v_788) dX11_sentence_28 ?_
  refine n_if_eq C (tgt := 44) (by decide) dX11_sentence_31 (by decide) ?_
  refine g_iconst C (v := (-1)) dX11_sentence_34 (by decide) ?_
  refine g_aload_n C 0 dX11_sentence_35 rfl rfl ?_
  refine g_getR C K hLx hkx f_11_10 hb_780 dX11_sentence_36 ?_
  refine g_getI C K hb_780L hb_780k f_11_116 (v := 0) (by rw [hI_790, u2_j (by decide)]; exact v_789) dX11_sentence_39 ?_
  refine g_isub C (v := (-1)) dX11_sentence_42 (by decide) ?_
  exact g_zret (ty := .int) (r := (-1)) B K rfl rfl (rfl) dX11_sentence_43
set_option maxRecDepth 100000 in
set_option maxHeartbeats 4000000 in
theorem t_image {l : Launch} {D : va_G} {cy : Nat → ClassId} {L : List Nat} {κ ln : Nat → Nat} {R : Nat → Nat → Option Nat} {I : Nat → Nat → Int32} {J : Nat → Nat → Int64} {ow : Nat → Nat × Nat} (W9 : ∀ a ∈ L, Shp L κ ln R ow a) {x : Nat} (hLx : x ∈ L) (hkx : κ x = 11) (FZ : Fz_ L κ I) (k : Int32) : CtI l yX11_image cX11_image 2 (some .boolean) { frames := 5, cells := 0, slots := 0, locals := 320 } D cy L κ ln R I J [.ref x, .int k] (fun r _ _ => r = if 0 ≤ k ∧ k ≤ 1 then 1 else 0) := by
  refine CtI.of (by decide +kernel) (Nat.le_of_ble_eq_true rfl) ?_
  intro p e s m below meth c B K
  have C := B.1
  have Z1 := fz_Z FZ 1 (by decide) (by decide) (by decide)
  have Z8 := fz_Z FZ 8 (by decide) (by decide) (by decide)
  refine g_lo (is := [0, 1]) (lo2 := [(0, .ref x), (1, .int k)]) rfl ?_
  refine g_iload_n C 1 dX11_image_0 rfl rfl ?_
  refine g_if_lt C (tgt := 9) dX11_image_1 (by decide) (fun h_791 => ?_) (fun h_791 => ?_)
  · skip
    refine g_iconst C (v := 0) dX11_image_9 (by decide) ?_
    exact g_zret (ty := .boolean) (r := 0) B K rfl (by decide) (by first | exact p_lo (by assumption) | exact p_hi' (e := 2) (by assumption) (by decide) | exact p_hi' (e := 2) (Int32.not_lt.mp (by assumption)) (by decide)) dX11_image_10
  · skip
    refine g_iload_n C 1 dX11_image_4 rfl rfl ?_
    refine g_iconst C (v := 2) dX11_image_5 (by decide) ?_
    refine g_icmp_lt C (tgt := 11) dX11_image_6 (by decide) (fun h_792 => ?_) (fun h_792 => ?_)
    · skip
      obtain ⟨i, hi, rfl⟩ := mk_i h_791 (Int32.not_le.mpr h_792)
      refine g_aload_n C 0 dX11_image_11 rfl rfl ?_
      obtain ⟨b_793, hb_793, hb_793L, hb_793k, hb_793n, hb_793o⟩ := shp_a (W9 x hLx) hkx 12 18 2 rfl (by decide)
      refine g_getR C K hLx hkx f_11_89 hb_793 dX11_image_12 ?_
      refine g_iload_n C 1 dX11_image_15 rfl rfl ?_
      obtain ⟨b_794, hb_794, hb_794L, hb_794k⟩ := (W9 b_793 hb_793L).2.2 hb_793k (i) (by rw [hb_793n]; omega)
      refine h_aaldI C K hb_793L hb_793k (i) (nI_clamp (by omega)) (nI_pos (by omega)) (by rw [hb_793n]; omega) hb_794 dX11_image_16 ?_
      refine g_aload_n C 0 dX11_image_17 rfl rfl ?_
      obtain ⟨b_795, hb_795, hb_795L, hb_795k⟩ := shp_o (W9 x hLx) hkx 1 8 rfl (by decide)
      refine g_getR C K hLx hkx f_11_19 hb_795 dX11_image_18 ?_
      refine g_aload_n C 0 dX11_image_21 rfl rfl ?_
      obtain ⟨b_796, hb_796, hb_796L, hb_796k⟩ := shp_o (W9 x hLx) hkx 2 1 rfl (by decide)
      refine g_getR C K hLx hkx f_11_28 hb_796 dX11_image_22 ?_
      refine g_aload_n C 0 dX11_image_25 rfl rfl ?_
      obtain ⟨b_797, hb_797, hb_797L, hb_797k⟩ := shp_o (W9 x hLx) hkx 7 7 rfl (by decide)
      refine g_getR C K hLx hkx f_11_59 hb_797 dX11_image_26 ?_
      refine g_callVV C K (c_Image_keep0 W9 hb_794L hb_794k hb_795L hb_795k hb_796L hb_796k hb_797L hb_797k Z1 Z8) hb_794L hb_794k (by decide) rfl v_11_379 rfl ⟨rfl, rfl⟩ ⟨Nat.le_of_ble_eq_true rfl, Nat.le_of_ble_eq_true rfl⟩ (Nat.le_of_ble_eq_true rfl) ⟨Nat.le_of_ble_eq_true rfl, Nat.le_of_ble_eq_true rfl⟩ dX11_image_29 rfl (st := []) (fun I_798 J_799 h_800 => ?_)
      obtain ⟨g_803, f_802⟩ := h_800
      refine g_iconst C (v := 1) dX11_image_32 (by decide) ?_
      exact g_zret (ty := .boolean) (r := 1) B K rfl (by decide) (p_in ⟨lt_ge (k := 0) (by omega) (by omega), lt_le (k := 1) (by omega) (by decide)⟩) dX11_image_33
    · skip
      refine g_iconst C (v := 0) dX11_image_9 (by decide) ?_
      exact g_zret (ty := .boolean) (r := 0) B K rfl (by decide) (by first | exact p_lo (by assumption) | exact p_hi' (e := 2) (by assumption) (by decide) | exact p_hi' (e := 2) (Int32.not_lt.mp (by assumption)) (by decide)) dX11_image_10
set_option maxRecDepth 100000 in
set_option maxHeartbeats 4000000 in
theorem t_restore {l : Launch} {D : va_G} {cy : Nat → ClassId} {L : List Nat} {κ ln : Nat → Nat} {R : Nat → Nat → Option Nat} {I : Nat → Nat → Int32} {J : Nat → Nat → Int64} {ow : Nat → Nat × Nat} (W9 : ∀ a ∈ L, Shp L κ ln R ow a) {x : Nat} (hLx : x ∈ L) (hkx : κ x = 11) (FZ : Fz_ L κ I) (k : Int32) : CtI l yX11_restore cX11_restore 2 (some .boolean) { frames := 5, cells := 0, slots := 0, locals := 320 } D cy L κ ln R I J [.ref x, .int k] (fun r _ _ => r = 0) := by
  refine CtI.of (by decide +kernel) (Nat.le_of_ble_eq_true rfl) ?_
  intro p e s m below meth c B K
  have C := B.1
  have Z1 := fz_Z FZ 1 (by decide) (by decide) (by decide)
  have Z8 := fz_Z FZ 8 (by decide) (by decide) (by decide)
  refine g_lo (is := [0, 1]) (lo2 := [(0, .ref x), (1, .int k)]) rfl ?_
  refine g_iload_n C 1 dX11_restore_0 rfl rfl ?_
  refine g_if_lt C (tgt := 21) dX11_restore_1 (by decide) (fun h_804 => ?_) (fun h_804 => ?_)
  · skip
    refine g_iconst C (v := 0) dX11_restore_21 (by decide) ?_
    exact g_zret (ty := .boolean) (r := 0) B K rfl (by decide) (rfl) dX11_restore_22
  · skip
    refine g_iload_n C 1 dX11_restore_4 rfl rfl ?_
    refine g_iconst C (v := 2) dX11_restore_5 (by decide) ?_
    refine g_icmp_ge C (tgt := 21) dX11_restore_6 (by decide) (fun h_805 => ?_) (fun h_805 => ?_)
    · skip
      refine g_iconst C (v := 0) dX11_restore_21 (by decide) ?_
      exact g_zret (ty := .boolean) (r := 0) B K rfl (by decide) (rfl) dX11_restore_22
    · skip
      obtain ⟨i, hi, rfl⟩ := mk_i h_804 h_805
      refine g_aload_n C 0 dX11_restore_9 rfl rfl ?_
      obtain ⟨b_806, hb_806, hb_806L, hb_806k, hb_806n, hb_806o⟩ := shp_a (W9 x hLx) hkx 12 18 2 rfl (by decide)
      refine g_getR C K hLx hkx f_11_89 hb_806 dX11_restore_10 ?_
      refine g_iload_n C 1 dX11_restore_13 rfl rfl ?_
      obtain ⟨b_807, hb_807, hb_807L, hb_807k⟩ := (W9 b_806 hb_806L).2.2 hb_806k (i) (by rw [hb_806n]; omega)
      refine h_aaldI C K hb_806L hb_806k (i) (nI_clamp (by omega)) (nI_pos (by omega)) (by rw [hb_806n]; omega) hb_807 dX11_restore_14 ?_
      refine g_getI C K hb_807L hb_807k f_11_383 (v := 0) ((by rw [FZ b_807 hb_807L 3, hb_807k]; rfl)) dX11_restore_15 ?_
      refine n_if_ne C (tgt := 23) (by decide) dX11_restore_18 (by decide) ?_
      refine g_iconst C (v := 0) dX11_restore_21 (by decide) ?_
      exact g_zret (ty := .boolean) (r := 0) B K rfl (by decide) (rfl) dX11_restore_22
