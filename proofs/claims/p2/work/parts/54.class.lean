theorem dX7_readAll_0 : decode cX7_readAll 0 = .ok (.aload_n 0, 1) := by decide +kernel
theorem dX7_readAll_1 : decode cX7_readAll 1 = .ok (.aload_n 1, 1) := by decide +kernel
theorem dX7_readAll_2 : decode cX7_readAll 2 = .ok (.aload_n 2, 1) := by decide +kernel
theorem dX7_readAll_3 : decode cX7_readAll 3 = .ok (.iload_n 3, 1) := by decide +kernel
theorem dX7_readAll_4 : decode cX7_readAll 4 = .ok (.invokevirtual 67, 3) := by decide +kernel
theorem dX7_readAll_7 : decode cX7_readAll 7 = .ok (.istore 4, 2) := by decide +kernel
theorem dX7_readAll_9 : decode cX7_readAll 9 = .ok (.iconst 0, 1) := by decide +kernel
theorem dX7_readAll_10 : decode cX7_readAll 10 = .ok (.istore 5, 2) := by decide +kernel
theorem dX7_readAll_12 : decode cX7_readAll 12 = .ok (.iload 5, 2) := by decide +kernel
theorem dX7_readAll_14 : decode cX7_readAll 14 = .ok (.bipush 20, 2) := by decide +kernel
theorem dX7_readAll_16 : decode cX7_readAll 16 = .ok (.if_icmp .ge 55, 3) := by decide +kernel
theorem dX7_readAll_19 : decode cX7_readAll 19 = .ok (.iload 4, 2) := by decide +kernel
theorem dX7_readAll_21 : decode cX7_readAll 21 = .ok (.ifCond .eq 50, 3) := by decide +kernel
theorem dX7_readAll_24 : decode cX7_readAll 24 = .ok (.aload_n 1, 1) := by decide +kernel
theorem dX7_readAll_25 : decode cX7_readAll 25 = .ok (.getfield 57, 3) := by decide +kernel
theorem dX7_readAll_28 : decode cX7_readAll 28 = .ok (.bipush 18, 2) := by decide +kernel
theorem dX7_readAll_30 : decode cX7_readAll 30 = .ok (.if_icmp .ne 41, 3) := by decide +kernel
theorem dX7_readAll_33 : decode cX7_readAll 33 = .ok (.aload_n 1, 1) := by decide +kernel
theorem dX7_readAll_34 : decode cX7_readAll 34 = .ok (.invokevirtual 60, 3) := by decide +kernel
theorem dX7_readAll_37 : decode cX7_readAll 37 = .ok (.aload_n 0, 1) := by decide +kernel
theorem dX7_readAll_38 : decode cX7_readAll 38 = .ok (.aload_n 1, 1) := by decide +kernel
theorem dX7_readAll_39 : decode cX7_readAll 39 = .ok (.aload_n 2, 1) := by decide +kernel
theorem dX7_readAll_40 : decode cX7_readAll 40 = .ok (.iload_n 3, 1) := by decide +kernel
theorem dX7_readAll_41 : decode cX7_readAll 41 = .ok (.invokevirtual 67, 3) := by decide +kernel
theorem dX7_readAll_44 : decode cX7_readAll 44 = .ok (.ifCond .eq 18, 3) := by decide +kernel
theorem dX7_readAll_47 : decode cX7_readAll 47 = .ok (.aload_n 0, 1) := by decide +kernel
theorem dX7_readAll_48 : decode cX7_readAll 48 = .ok (.bipush 18, 2) := by decide +kernel
theorem dX7_readAll_50 : decode cX7_readAll 50 = .ok (.iconst 0, 1) := by decide +kernel
theorem dX7_readAll_51 : decode cX7_readAll 51 = .ok (.iconst 0, 1) := by decide +kernel
theorem dX7_readAll_52 : decode cX7_readAll 52 = .ok (.invokevirtual 63, 3) := by decide +kernel
theorem dX7_readAll_55 : decode cX7_readAll 55 = .ok (.ifCond .eq 7, 3) := by decide +kernel
theorem dX7_readAll_58 : decode cX7_readAll 58 = .ok (.iconst 1, 1) := by decide +kernel
theorem dX7_readAll_59 : decode cX7_readAll 59 = .ok (.goto 4, 3) := by decide +kernel
theorem dX7_readAll_62 : decode cX7_readAll 62 = .ok (.iconst 0, 1) := by decide +kernel
theorem dX7_readAll_63 : decode cX7_readAll 63 = .ok (.istore 4, 2) := by decide +kernel
theorem dX7_readAll_65 : decode cX7_readAll 65 = .ok (.iinc 5 1, 3) := by decide +kernel
theorem dX7_readAll_68 : decode cX7_readAll 68 = .ok (.goto (-56), 3) := by decide +kernel
theorem dX7_readAll_71 : decode cX7_readAll 71 = .ok (.iload 4, 2) := by decide +kernel
theorem dX7_readAll_73 : decode cX7_readAll 73 = .ok (.ireturn, 1) := by decide +kernel
theorem dX7_readCond_0 : decode cX7_readCond 0 = .ok (.aload_n 0, 1) := by decide +kernel
theorem dX7_readCond_1 : decode cX7_readCond 1 = .ok (.aload_n 1, 1) := by decide +kernel
theorem dX7_readCond_2 : decode cX7_readCond 2 = .ok (.aload_n 2, 1) := by decide +kernel
theorem dX7_readCond_3 : decode cX7_readCond 3 = .ok (.iload_n 3, 1) := by decide +kernel
theorem dX7_readCond_4 : decode cX7_readCond 4 = .ok (.invokevirtual 54, 3) := by decide +kernel
theorem dX7_readCond_7 : decode cX7_readCond 7 = .ok (.istore 4, 2) := by decide +kernel
theorem dX7_readCond_9 : decode cX7_readCond 9 = .ok (.iconst 0, 1) := by decide +kernel
theorem dX7_readCond_10 : decode cX7_readCond 10 = .ok (.istore 5, 2) := by decide +kernel
theorem dX7_readCond_12 : decode cX7_readCond 12 = .ok (.iload 5, 2) := by decide +kernel
theorem dX7_readCond_14 : decode cX7_readCond 14 = .ok (.bipush 20, 2) := by decide +kernel
theorem dX7_readCond_16 : decode cX7_readCond 16 = .ok (.if_icmp .ge 55, 3) := by decide +kernel
theorem dX7_readCond_19 : decode cX7_readCond 19 = .ok (.iload 4, 2) := by decide +kernel
theorem dX7_readCond_21 : decode cX7_readCond 21 = .ok (.ifCond .eq 50, 3) := by decide +kernel
theorem dX7_readCond_24 : decode cX7_readCond 24 = .ok (.aload_n 1, 1) := by decide +kernel
theorem dX7_readCond_25 : decode cX7_readCond 25 = .ok (.getfield 57, 3) := by decide +kernel
theorem dX7_readCond_28 : decode cX7_readCond 28 = .ok (.bipush 17, 2) := by decide +kernel
theorem dX7_readCond_30 : decode cX7_readCond 30 = .ok (.if_icmp .ne 41, 3) := by decide +kernel
theorem dX7_readCond_33 : decode cX7_readCond 33 = .ok (.aload_n 1, 1) := by decide +kernel
theorem dX7_readCond_34 : decode cX7_readCond 34 = .ok (.invokevirtual 60, 3) := by decide +kernel
theorem dX7_readCond_37 : decode cX7_readCond 37 = .ok (.aload_n 0, 1) := by decide +kernel
theorem dX7_readCond_38 : decode cX7_readCond 38 = .ok (.aload_n 1, 1) := by decide +kernel
theorem dX7_readCond_39 : decode cX7_readCond 39 = .ok (.aload_n 2, 1) := by decide +kernel
theorem dX7_readCond_40 : decode cX7_readCond 40 = .ok (.iload_n 3, 1) := by decide +kernel
theorem dX7_readCond_41 : decode cX7_readCond 41 = .ok (.invokevirtual 54, 3) := by decide +kernel
theorem dX7_readCond_44 : decode cX7_readCond 44 = .ok (.ifCond .eq 18, 3) := by decide +kernel
theorem dX7_readCond_47 : decode cX7_readCond 47 = .ok (.aload_n 0, 1) := by decide +kernel
theorem dX7_readCond_48 : decode cX7_readCond 48 = .ok (.bipush 17, 2) := by decide +kernel
theorem dX7_readCond_50 : decode cX7_readCond 50 = .ok (.iconst 0, 1) := by decide +kernel
theorem dX7_readCond_51 : decode cX7_readCond 51 = .ok (.iconst 0, 1) := by decide +kernel
theorem dX7_readCond_52 : decode cX7_readCond 52 = .ok (.invokevirtual 63, 3) := by decide +kernel
theorem dX7_readCond_55 : decode cX7_readCond 55 = .ok (.ifCond .eq 7, 3) := by decide +kernel
theorem dX7_readCond_58 : decode cX7_readCond 58 = .ok (.iconst 1, 1) := by decide +kernel
theorem dX7_readCond_59 : decode cX7_readCond 59 = .ok (.goto 4, 3) := by decide +kernel
theorem dX7_readCond_62 : decode cX7_readCond 62 = .ok (.iconst 0, 1) := by decide +kernel
theorem dX7_readCond_63 : decode cX7_readCond 63 = .ok (.istore 4, 2) := by decide +kernel
theorem dX7_readCond_65 : decode cX7_readCond 65 = .ok (.iinc 5 1, 3) := by decide +kernel
theorem dX7_readCond_68 : decode cX7_readCond 68 = .ok (.goto (-56), 3) := by decide +kernel
theorem dX7_readCond_71 : decode cX7_readCond 71 = .ok (.iload 4, 2) := by decide +kernel
theorem dX7_readCond_73 : decode cX7_readCond 73 = .ok (.ireturn, 1) := by decide +kernel
theorem dX7_readOne_0 : decode cX7_readOne 0 = .ok (.aload_n 1, 1) := by decide +kernel
theorem dX7_readOne_1 : decode cX7_readOne 1 = .ok (.getfield 57, 3) := by decide +kernel
theorem dX7_readOne_4 : decode cX7_readOne 4 = .ok (.istore 4, 2) := by decide +kernel
theorem dX7_readOne_6 : decode cX7_readOne 6 = .ok (.iload 4, 2) := by decide +kernel
theorem dX7_readOne_8 : decode cX7_readOne 8 = .ok (.invokestatic 70, 3) := by decide +kernel
theorem dX7_readOne_11 : decode cX7_readOne 11 = .ok (.ifCond .ne 9, 3) := by decide +kernel
theorem dX7_readOne_14 : decode cX7_readOne 14 = .ok (.aload_n 1, 1) := by decide +kernel
theorem dX7_readOne_15 : decode cX7_readOne 15 = .ok (.iconst 1, 1) := by decide +kernel
theorem dX7_readOne_16 : decode cX7_readOne 16 = .ok (.invokevirtual 73, 3) := by decide +kernel
theorem dX7_readOne_19 : decode cX7_readOne 19 = .ok (.ireturn, 1) := by decide +kernel
theorem dX7_readOne_20 : decode cX7_readOne 20 = .ok (.aload_n 0, 1) := by decide +kernel
theorem dX7_readOne_21 : decode cX7_readOne 21 = .ok (.getfield 28, 3) := by decide +kernel
theorem dX7_readOne_24 : decode cX7_readOne 24 = .ok (.bipush 20, 2) := by decide +kernel
theorem dX7_readOne_26 : decode cX7_readOne 26 = .ok (.if_icmp .ge 9, 3) := by decide +kernel
theorem dX7_readOne_29 : decode cX7_readOne 29 = .ok (.iload_n 3, 1) := by decide +kernel
theorem dX7_readOne_30 : decode cX7_readOne 30 = .ok (.bipush 8, 2) := by decide +kernel
theorem dX7_readOne_32 : decode cX7_readOne 32 = .ok (.if_icmp .le 9, 3) := by decide +kernel
theorem dX7_readOne_35 : decode cX7_readOne 35 = .ok (.aload_n 1, 1) := by decide +kernel
theorem dX7_readOne_36 : decode cX7_readOne 36 = .ok (.iconst 4, 1) := by decide +kernel
theorem dX7_readOne_37 : decode cX7_readOne 37 = .ok (.invokevirtual 73, 3) := by decide +kernel
theorem dX7_readOne_40 : decode cX7_readOne 40 = .ok (.ireturn, 1) := by decide +kernel
theorem dX7_readOne_41 : decode cX7_readOne 41 = .ok (.aload_n 0, 1) := by decide +kernel
theorem dX7_readOne_42 : decode cX7_readOne 42 = .ok (.dup, 1) := by decide +kernel
theorem dX7_readOne_43 : decode cX7_readOne 43 = .ok (.getfield 28, 3) := by decide +kernel
theorem dX7_readOne_46 : decode cX7_readOne 46 = .ok (.iconst 1, 1) := by decide +kernel
theorem dX7_readOne_47 : decode cX7_readOne 47 = .ok (.iadd, 1) := by decide +kernel
theorem dX7_readOne_48 : decode cX7_readOne 48 = .ok (.putfield 28, 3) := by decide +kernel
theorem dX7_readOne_51 : decode cX7_readOne 51 = .ok (.aload_n 1, 1) := by decide +kernel
theorem dX7_readOne_52 : decode cX7_readOne 52 = .ok (.invokevirtual 60, 3) := by decide +kernel
theorem dX7_readOne_55 : decode cX7_readOne 55 = .ok (.iload 4, 2) := by decide +kernel
theorem dX7_readOne_57 : decode cX7_readOne 57 = .ok (.bipush 40, 2) := by decide +kernel
theorem dX7_readOne_59 : decode cX7_readOne 59 = .ok (.if_icmp .ne 30, 3) := by decide +kernel
theorem dX7_readOne_62 : decode cX7_readOne 62 = .ok (.aload_n 0, 1) := by decide +kernel
theorem dX7_readOne_63 : decode cX7_readOne 63 = .ok (.aload_n 1, 1) := by decide +kernel
theorem dX7_readOne_64 : decode cX7_readOne 64 = .ok (.aload_n 2, 1) := by decide +kernel
theorem dX7_readOne_65 : decode cX7_readOne 65 = .ok (.iload_n 3, 1) := by decide +kernel
theorem dX7_readOne_66 : decode cX7_readOne 66 = .ok (.iconst 1, 1) := by decide +kernel
theorem dX7_readOne_67 : decode cX7_readOne 67 = .ok (.iadd, 1) := by decide +kernel
theorem dX7_readOne_68 : decode cX7_readOne 68 = .ok (.invokevirtual 46, 3) := by decide +kernel
theorem dX7_readOne_71 : decode cX7_readOne 71 = .ok (.ifCond .eq 16, 3) := by decide +kernel
theorem dX7_readOne_74 : decode cX7_readOne 74 = .ok (.aload_n 1, 1) := by decide +kernel
theorem dX7_readOne_75 : decode cX7_readOne 75 = .ok (.bipush 41, 2) := by decide +kernel
theorem dX7_readOne_77 : decode cX7_readOne 77 = .ok (.invokevirtual 50, 3) := by decide +kernel
theorem dX7_readOne_80 : decode cX7_readOne 80 = .ok (.ifCond .eq 7, 3) := by decide +kernel
theorem dX7_readOne_83 : decode cX7_readOne 83 = .ok (.iconst 1, 1) := by decide +kernel
theorem dX7_readOne_84 : decode cX7_readOne 84 = .ok (.goto 4, 3) := by decide +kernel
theorem dX7_readOne_87 : decode cX7_readOne 87 = .ok (.iconst 0, 1) := by decide +kernel
theorem dX7_readOne_88 : decode cX7_readOne 88 = .ok (.ireturn, 1) := by decide +kernel
theorem dX7_readOne_89 : decode cX7_readOne 89 = .ok (.iload 4, 2) := by decide +kernel
theorem dX7_readOne_91 : decode cX7_readOne 91 = .ok (.bipush 19, 2) := by decide +kernel
theorem dX7_readOne_93 : decode cX7_readOne 93 = .ok (.if_icmp .ne 32, 3) := by decide +kernel
theorem dX7_readOne_96 : decode cX7_readOne 96 = .ok (.aload_n 0, 1) := by decide +kernel
theorem dX7_readOne_97 : decode cX7_readOne 97 = .ok (.aload_n 1, 1) := by decide +kernel
theorem dX7_readOne_98 : decode cX7_readOne 98 = .ok (.aload_n 2, 1) := by decide +kernel
theorem dX7_readOne_99 : decode cX7_readOne 99 = .ok (.iload_n 3, 1) := by decide +kernel
theorem dX7_readOne_100 : decode cX7_readOne 100 = .ok (.iconst 1, 1) := by decide +kernel
theorem dX7_readOne_101 : decode cX7_readOne 101 = .ok (.iadd, 1) := by decide +kernel
theorem dX7_readOne_102 : decode cX7_readOne 102 = .ok (.invokevirtual 67, 3) := by decide +kernel
theorem dX7_readOne_105 : decode cX7_readOne 105 = .ok (.ifCond .eq 18, 3) := by decide +kernel
theorem dX7_readOne_108 : decode cX7_readOne 108 = .ok (.aload_n 0, 1) := by decide +kernel
theorem dX7_readOne_109 : decode cX7_readOne 109 = .ok (.bipush 19, 2) := by decide +kernel
theorem dX7_readOne_111 : decode cX7_readOne 111 = .ok (.iconst 0, 1) := by decide +kernel
theorem dX7_readOne_112 : decode cX7_readOne 112 = .ok (.iconst 0, 1) := by decide +kernel
theorem dX7_readOne_113 : decode cX7_readOne 113 = .ok (.invokevirtual 63, 3) := by decide +kernel
theorem dX7_readOne_116 : decode cX7_readOne 116 = .ok (.ifCond .eq 7, 3) := by decide +kernel
theorem dX7_readOne_119 : decode cX7_readOne 119 = .ok (.iconst 1, 1) := by decide +kernel
theorem dX7_readOne_120 : decode cX7_readOne 120 = .ok (.goto 4, 3) := by decide +kernel
theorem dX7_readOne_123 : decode cX7_readOne 123 = .ok (.iconst 0, 1) := by decide +kernel
theorem dX7_readOne_124 : decode cX7_readOne 124 = .ok (.ireturn, 1) := by decide +kernel
theorem dX7_readOne_125 : decode cX7_readOne 125 = .ok (.aload_n 0, 1) := by decide +kernel
theorem dX7_readOne_126 : decode cX7_readOne 126 = .ok (.aload_n 1, 1) := by decide +kernel
theorem dX7_readOne_127 : decode cX7_readOne 127 = .ok (.aload_n 2, 1) := by decide +kernel
theorem dX7_readOne_128 : decode cX7_readOne 128 = .ok (.iload 4, 2) := by decide +kernel
theorem dX7_readOne_130 : decode cX7_readOne 130 = .ok (.invokevirtual 76, 3) := by decide +kernel
theorem dX7_readOne_133 : decode cX7_readOne 133 = .ok (.ireturn, 1) := by decide +kernel
set_option maxRecDepth 100000 in
set_option maxHeartbeats 8000000 in
theorem c_X7_readOne_7 {l : Launch} {D : va_G} {cy : Nat → ClassId} {L : List Nat} {κ ln : Nat → Nat} {R : Nat → Nat → Option Nat} {I : Nat → Nat → Int32} {J : Nat → Nat → Int64} {ow : Nat → Nat × Nat} (W9 : ∀ a ∈ L, Shp L κ ln R ow a) {x : Nat} (hLx : x ∈ L) (hkx : κ x = 7) {a0 : Nat} (hLa0 : a0 ∈ L) (hka0 : κ a0 = 10) {a1 : Nat} (hLa1 : a1 ∈ L) (hka1 : κ a1 = 8) (a2 : Int32) (ra2 : Rg 7 7 a2) (hU : Iv L κ R ow I) : CtI l yX7_readOne cX7_readOne 5 (some .boolean) { frames := 7, cells := 0, slots := 0, locals := 169 } D cy L κ ln R I J [.ref x, .ref a0, .ref a1, .int a2] (fun r I2 J2 => Iv L κ R ow I2 ∧ Fq L κ ow [704, 705, 1007, 1008, 1009, 1011, 1012, 52000, 52100, 52200] I I2 ∧ Fq L κ ow [1010] J J2 ∧ Rg 0 1 r) := by
  refine CtI.of (by decide +kernel) (Nat.le_of_ble_eq_true rfl) ?_
  intro p e s m below meth c B K
  have C := B.1
  have hF : Fq L κ ow [704, 705, 1007, 1008, 1009, 1011, 1012, 52000, 52100, 52200] I I := fq_rf
  have hG : Fq L κ ow [1010] J J := fq_rf
  refine g_lo (is := [0, 1, 2, 3]) (lo2 := [(0, .ref x), (1, .ref a0), (2, .ref a1), (3, .int a2)]) rfl ?_
  have j_35 : ∀ (I_508667 : Nat → Nat → Int32) (J_508668 : Nat → Nat → Int64) (hU_508669 : Iv L κ R ow I_508667) (hF_508670 : Fq L κ ow [704, 705, 1007, 1008, 1009, 1011, 1012, 52000, 52100, 52200] I I_508667) (hG_508671 : Fq L κ ow [1010] J J_508668) (v_508672 : Int32) (rv_508672 : Rg 7 7 v_508672) (v_508673 : Int32) (v_508674 : Int32) (rv_508674 : Rg 20 2147483647 v_508674) (q_508675 : I_508667 a0 8 = v_508673) (q_508676 : I_508667 x 5 = v_508674), WG p l e { frames := 7, cells := 0, slots := 0, locals := 169 } s m ([.ref x, .ref a0, .ref a1, .int a2] : List Value).toArray below meth c 5 0 0 (MQ below (Qi_ D cy L κ ln R (fun r I2 J2 => Iv L κ R ow I2 ∧ Fq L κ ow [704, 705, 1007, 1008, 1009, 1011, 1012, 52000, 52100, 52200] I I2 ∧ Fq L κ ow [1010] J J2 ∧ Rg 0 1 r)) ([.ref x, .ref a0, .ref a1, .int a2] : List Value).toArray s 0 0 (Al_ L)) D cy (Al_ L) s.heap L κ ln R I_508667 J_508668 35 [(0, .ref x), (1, .ref a0), (2, .ref a1), (3, .int v_508672), (4, .int v_508673)] [] := by
    intro I_508667 J_508668 hU_508669 hF_508670 hG_508671 v_508672 rv_508672 v_508673 v_508674 rv_508674 q_508675 q_508676
    refine g_aload_n C 1 dX7_readOne_35 rfl rfl ?_
    refine g_iconst C (v := 4) dX7_readOne_36 (by decide) ?_
    refine g_callVI C K (c_X10_fail W9 hLa0 hka0 4 (rg_w rc_4 (by decide) (by decide)) hU_508669) hLa0 hka0 (by decide) rfl v_7_73 rfl ⟨rfl, rfl⟩ ⟨Nat.le_of_ble_eq_true rfl, Nat.le_of_ble_eq_true rfl⟩ (Nat.le_of_ble_eq_true rfl) ⟨Nat.le_of_ble_eq_true rfl, Nat.le_of_ble_eq_true rfl⟩ dX7_readOne_37 rfl (st := []) (fun x_508677 I_508678 J_508679 h_508680 => ?_)
    obtain ⟨hUI_508678, hFI_508678, hGJ_508679, rx_508677⟩ := h_508680
    have hF_508681 := fq_tr hF_508670 hFI_508678 (by decide)
    have hG_508682 := fq_tr hG_508671 hGJ_508679 (by decide)
    exact g_zret (ty := .boolean) (r := x_508677) B K rfl (nar_z (rg_w rx_508677 (by decide) (by decide))) ⟨hUI_508678, hF_508681, hG_508682, rg_w rx_508677 (by decide) (by decide)⟩ dX7_readOne_40
  refine g_aload_n C 1 dX7_readOne_0 rfl rfl ?_
  obtain ⟨x_508683, hx_508683, rx_508683⟩ := ex_get (I := I) (a := a0) (j := 8) (lo := (-2147483648)) (hi := 2147483647) hU.1 hLa0 (ro_o hka0 (by decide)) rfl
  refine g_getI C K hLa0 hka0 f_7_57 (v := x_508683) hx_508683 dX7_readOne_1 ?_
  refine g_istore C dX7_readOne_4 (by decide) (lo2 := [(4, .int x_508683), (0, .ref x), (1, .ref a0), (2, .ref a1), (3, .int a2)]) rfl ?_
  refine g_iload C 0 dX7_readOne_6 rfl ?_
  refine g_callSI C K (c_X7_beginsOne W9 x_508683  hU) s_7_70 rfl ⟨rfl, rfl⟩ ⟨Nat.le_of_ble_eq_true rfl, Nat.le_of_ble_eq_true rfl⟩ (Nat.le_of_ble_eq_true rfl) ⟨Nat.le_of_ble_eq_true rfl, Nat.le_of_ble_eq_true rfl⟩ dX7_readOne_8 rfl (st := []) (fun x_508684 I_508685 J_508686 h_508687 => ?_)
  obtain ⟨rfl, rfl, rx_508684⟩ := h_508687
  refine g_if_ne C (tgt := 20) dX7_readOne_11 (by decide) (fun h_508688 => ?_) (fun h_508688 => ?_)
  · skip
    have n_508689 : ¬ x_508684 = 0 := h_508688
    have r_508690 := ne_lo (lo := 1) n_508689 rx_508684 rc_0 rfl (by decide)
    refine g_aload_n C 1 dX7_readOne_20 rfl rfl ?_
    obtain ⟨x_508691, hx_508691, rx_508691⟩ := ex_get (I := I) (a := x) (j := 5) (lo := (-2147483648)) (hi := 2147483647) hU.1 hLx (ro_o hkx (by decide)) rfl
    refine g_getI C K hLx hkx f_7_28 (v := x_508691) hx_508691 dX7_readOne_21 ?_
    refine g_bipush C (v := 20) dX7_readOne_24 (by decide) ?_
    refine g_icmp_ge C (tgt := 35) dX7_readOne_26 (by decide) (fun h_508692 => ?_) (fun h_508692 => ?_)
    · skip
      have r_508693 := le_r (h_508692) rc_20 rx_508691
      refine g_lo (is := [1, 2, 3, 4, 0]) (lo2 := [(0, .ref x), (1, .ref a0), (2, .ref a1), (3, .int a2), (4, .int x_508683)]) rfl ?_
      exact j_35 I J hU hF hG a2 (ra2) x_508683 x_508691 (r_508693) hx_508683 hx_508691
    · skip
      have r_508694 := lt_l (hi := 19) (nle h_508692) rx_508691 rc_20 (by decide)
      refine g_iload_n C 4 dX7_readOne_29 rfl rfl ?_
      refine g_bipush C (v := 8) dX7_readOne_30 (by decide) ?_
      refine g_icmp_le C (tgt := 41) dX7_readOne_32 (by decide) (fun h_508695 => ?_) (fun h_508695 => ?_)
      · skip
        refine g_aload_n C 1 dX7_readOne_41 rfl rfl ?_
        refine g_dup C dX7_readOne_42 rfl ?_
        refine g_getI C K hLx hkx f_7_28 (v := x_508691) hx_508691 dX7_readOne_43 ?_
        refine g_iconst C (v := 1) dX7_readOne_46 (by decide) ?_
        obtain ⟨x_508696, hx_508696, rx_508696, tx_508696⟩ := ex_add (-2147483647) 20 r_508694 rc_1 (by decide) (by decide) (by decide) (by decide)
        refine g_iadd C (v := x_508696) dX7_readOne_47 hx_508696 ?_
        refine h_putI C K hLx hkx f_7_28 p_7_5 dX7_readOne_48 (fun I_508697 hI_508697 => ?_)
        have hU_508698 := iv_put W9 hU hI_508697 (ro_o hkx (by decide)) (lo := (-2147483648)) (hi := 2147483647) (rfl) (rg_all _) rfl
        have hF_508699 := fq_puto hF hI_508697 hkx (by decide) (by decide)
        refine g_aload_n C 2 dX7_readOne_51 rfl rfl ?_
        refine g_callVV C K (c_X10_advance W9 hLa0 hka0   hU_508698) hLa0 hka0 (by decide) rfl v_7_60 rfl ⟨rfl, rfl⟩ ⟨Nat.le_of_ble_eq_true rfl, Nat.le_of_ble_eq_true rfl⟩ (Nat.le_of_ble_eq_true rfl) ⟨Nat.le_of_ble_eq_true rfl, Nat.le_of_ble_eq_true rfl⟩ dX7_readOne_52 rfl (st := []) (fun I_508701 J_508702 h_508703 => ?_)
        obtain ⟨hUI_508701, hFI_508701, hGJ_508702⟩ := h_508703
        have hF_508704 := fq_tr hF_508699 hFI_508701 (by decide)
        have hG_508705 := fq_tr hG hGJ_508702 (by decide)
        refine g_iload C 0 dX7_readOne_55 rfl ?_
        refine g_bipush C (v := 40) dX7_readOne_57 (by decide) ?_
        refine g_icmp_ne C (tgt := 89) dX7_readOne_59 (by decide) (fun h_508706 => ?_) (fun h_508706 => ?_)
        · skip
          have n_508707 : ¬ x_508683 = 40 := h_508706
          refine g_iload C 0 dX7_readOne_89 rfl ?_
          refine g_bipush C (v := 19) dX7_readOne_91 (by decide) ?_
          refine g_icmp_ne C (tgt := 125) dX7_readOne_93 (by decide) (fun h_508708 => ?_) (fun h_508708 => ?_)
          · skip
            have n_508709 : ¬ x_508683 = 19 := h_508708
            refine g_aload_n C 1 dX7_readOne_125 rfl rfl ?_
            refine g_aload_n C 2 dX7_readOne_126 rfl rfl ?_
            refine g_aload_n C 3 dX7_readOne_127 rfl rfl ?_
            refine g_iload C 0 dX7_readOne_128 rfl ?_
            refine g_callVI C K (c_X7_readPlainOne W9 hLx hkx hLa0 hka0 hLa1 hka1 x_508683  hUI_508701) hLx hkx (by decide) rfl v_7_76 rfl ⟨rfl, rfl⟩ ⟨Nat.le_of_ble_eq_true rfl, Nat.le_of_ble_eq_true rfl⟩ (Nat.le_of_ble_eq_true rfl) ⟨Nat.le_of_ble_eq_true rfl, Nat.le_of_ble_eq_true rfl⟩ dX7_readOne_130 rfl (st := []) (fun x_508710 I_508711 J_508712 h_508713 => ?_)
            obtain ⟨hUI_508711, hFI_508711, hGJ_508712, rx_508710⟩ := h_508713
            have hF_508714 := fq_tr hF_508704 hFI_508711 (by decide)
            have hG_508715 := fq_tr hG_508705 hGJ_508712 (by decide)
            exact g_zret (ty := .boolean) (r := x_508710) B K rfl (nar_z (rx_508710)) ⟨hUI_508711, hF_508714, hG_508715, rx_508710⟩ dX7_readOne_133
          · skip
            have r_508716 := (⟨(eq_rg (h_508708) rc_19).1, (eq_rg (h_508708) rc_19).2⟩ : Rg 19 19 x_508683)
            refine g_aload_n C 1 dX7_readOne_96 rfl rfl ?_
            refine g_aload_n C 2 dX7_readOne_97 rfl rfl ?_
            refine g_aload_n C 3 dX7_readOne_98 rfl rfl ?_
            refine g_iload_n C 4 dX7_readOne_99 rfl rfl ?_
            refine g_iconst C (v := 1) dX7_readOne_100 (by decide) ?_
            obtain ⟨x_508717, hx_508717, rx_508717, tx_508717⟩ := ex_add 8 8 ra2 rc_1 (by decide) (by decide) (by decide) (by decide)
            refine g_iadd C (v := x_508717) dX7_readOne_101 hx_508717 ?_
            refine g_callVI C K (c_X7_readOne_8 W9 hLx hkx hLa0 hka0 hLa1 hka1 x_508717 (rx_508717) hUI_508701) hLx hkx (by decide) rfl v_7_67 rfl ⟨rfl, rfl⟩ ⟨Nat.le_of_ble_eq_true rfl, Nat.le_of_ble_eq_true rfl⟩ (Nat.le_of_ble_eq_true rfl) ⟨Nat.le_of_ble_eq_true rfl, Nat.le_of_ble_eq_true rfl⟩ dX7_readOne_102 rfl (st := []) (fun x_508718 I_508719 J_508720 h_508721 => ?_)
            obtain ⟨hUI_508719, hFI_508719, hGJ_508720, rx_508718⟩ := h_508721
            have hF_508722 := fq_tr hF_508704 hFI_508719 (by decide)
            have hG_508723 := fq_tr hG_508705 hGJ_508720 (by decide)
            refine g_if_eq C (tgt := 123) dX7_readOne_105 (by decide) (fun h_508724 => ?_) (fun h_508724 => ?_)
            · skip
              have r_508725 := (⟨(rx_508718).1, (eq_rg (h_508724) rc_0).2⟩ : Rg 0 0 x_508718)
              refine g_iconst C (v := 0) dX7_readOne_123 (by decide) ?_
              exact g_zret (ty := .boolean) (r := 0) B K rfl (rfl) ⟨hUI_508719, hF_508722, hG_508723, rg_w rc_0 (by decide) (by decide)⟩ dX7_readOne_124
            · skip
              have n_508726 : ¬ x_508718 = 0 := h_508724
              have r_508727 := ne_lo (lo := 1) n_508726 rx_508718 rc_0 rfl (by decide)
              refine g_aload_n C 1 dX7_readOne_108 rfl rfl ?_
              refine g_bipush C (v := 19) dX7_readOne_109 (by decide) ?_
              refine g_iconst C (v := 0) dX7_readOne_111 (by decide) ?_
              refine g_iconst C (v := 0) dX7_readOne_112 (by decide) ?_
              refine g_callVI C K (c_X7_addStep W9 hLx hkx 19 0 0 (rg_w rc_0 (by decide) (by decide)) hUI_508719  (fun q => absurd q (by decide))) hLx hkx (by decide) rfl v_7_63 rfl ⟨rfl, rfl⟩ ⟨Nat.le_of_ble_eq_true rfl, Nat.le_of_ble_eq_true rfl⟩ (Nat.le_of_ble_eq_true rfl) ⟨Nat.le_of_ble_eq_true rfl, Nat.le_of_ble_eq_true rfl⟩ dX7_readOne_113 rfl (st := []) (fun x_508728 I_508729 J_508730 h_508731 => ?_)
              obtain ⟨hUI_508729, hFI_508729, hGJ_508730, rx_508728⟩ := h_508731
              have hF_508732 := fq_tr hF_508722 hFI_508729 (by decide)
              have hG_508733 := fq_tr hG_508723 hGJ_508730 (by decide)
              refine g_if_eq C (tgt := 123) dX7_readOne_116 (by decide) (fun h_508734 => ?_) (fun h_508734 => ?_)
              · skip
                have r_508735 := (⟨(rx_508728).1, (eq_rg (h_508734) rc_0).2⟩ : Rg 0 0 x_508728)
                refine g_iconst C (v := 0) dX7_readOne_123 (by decide) ?_
                exact g_zret (ty := .boolean) (r := 0) B K rfl (rfl) ⟨hUI_508729, hF_508732, hG_508733, rg_w rc_0 (by decide) (by decide)⟩ dX7_readOne_124
              · skip
                have n_508736 : ¬ x_508728 = 0 := h_508734
                have r_508737 := ne_lo (lo := 1) n_508736 rx_508728 rc_0 rfl (by decide)
                refine g_iconst C (v := 1) dX7_readOne_119 (by decide) ?_
                refine g_goto C (tgt := 124) dX7_readOne_120 (by decide) ?_
                exact g_zret (ty := .boolean) (r := 1) B K rfl (rfl) ⟨hUI_508729, hF_508732, hG_508733, rg_w rc_1 (by decide) (by decide)⟩ dX7_readOne_124
        · skip
          have r_508738 := (⟨(eq_rg (h_508706) rc_40).1, (eq_rg (h_508706) rc_40).2⟩ : Rg 40 40 x_508683)
          refine g_aload_n C 1 dX7_readOne_62 rfl rfl ?_
          refine g_aload_n C 2 dX7_readOne_63 rfl rfl ?_
          refine g_aload_n C 3 dX7_readOne_64 rfl rfl ?_
          refine g_iload_n C 4 dX7_readOne_65 rfl rfl ?_
          refine g_iconst C (v := 1) dX7_readOne_66 (by decide) ?_
          obtain ⟨x_508739, hx_508739, rx_508739, tx_508739⟩ := ex_add 8 8 ra2 rc_1 (by decide) (by decide) (by decide) (by decide)
          refine g_iadd C (v := x_508739) dX7_readOne_67 hx_508739 ?_
          refine g_callVI C K (c_X7_readCond_8 W9 hLx hkx hLa0 hka0 hLa1 hka1 x_508739 (rx_508739) hUI_508701) hLx hkx (by decide) rfl v_7_46 rfl ⟨rfl, rfl⟩ ⟨Nat.le_of_ble_eq_true rfl, Nat.le_of_ble_eq_true rfl⟩ (Nat.le_of_ble_eq_true rfl) ⟨Nat.le_of_ble_eq_true rfl, Nat.le_of_ble_eq_true rfl⟩ dX7_readOne_68 rfl (st := []) (fun x_508740 I_508741 J_508742 h_508743 => ?_)
          obtain ⟨hUI_508741, hFI_508741, hGJ_508742, rx_508740⟩ := h_508743
          have hF_508744 := fq_tr hF_508704 hFI_508741 (by decide)
          have hG_508745 := fq_tr hG_508705 hGJ_508742 (by decide)
          refine g_if_eq C (tgt := 87) dX7_readOne_71 (by decide) (fun h_508746 => ?_) (fun h_508746 => ?_)
          · skip
            have r_508747 := (⟨(rx_508740).1, (eq_rg (h_508746) rc_0).2⟩ : Rg 0 0 x_508740)
            refine g_iconst C (v := 0) dX7_readOne_87 (by decide) ?_
            exact g_zret (ty := .boolean) (r := 0) B K rfl (rfl) ⟨hUI_508741, hF_508744, hG_508745, rg_w rc_0 (by decide) (by decide)⟩ dX7_readOne_88
          · skip
            have n_508748 : ¬ x_508740 = 0 := h_508746
            have r_508749 := ne_lo (lo := 1) n_508748 rx_508740 rc_0 rfl (by decide)
            refine g_aload_n C 2 dX7_readOne_74 rfl rfl ?_
            refine g_bipush C (v := 41) dX7_readOne_75 (by decide) ?_
            refine g_callVI C K (c_X10_take W9 hLa0 hka0 41 (rg_w rc_41 (by decide) (by decide)) hUI_508741) hLa0 hka0 (by decide) rfl v_7_50 rfl ⟨rfl, rfl⟩ ⟨Nat.le_of_ble_eq_true rfl, Nat.le_of_ble_eq_true rfl⟩ (Nat.le_of_ble_eq_true rfl) ⟨Nat.le_of_ble_eq_true rfl, Nat.le_of_ble_eq_true rfl⟩ dX7_readOne_77 rfl (st := []) (fun x_508750 I_508751 J_508752 h_508753 => ?_)
            obtain ⟨hUI_508751, hFI_508751, hGJ_508752, rx_508750⟩ := h_508753
            have hF_508754 := fq_tr hF_508744 hFI_508751 (by decide)
            have hG_508755 := fq_tr hG_508745 hGJ_508752 (by decide)
            refine g_if_eq C (tgt := 87) dX7_readOne_80 (by decide) (fun h_508756 => ?_) (fun h_508756 => ?_)
            · skip
              have r_508757 := (⟨(rx_508750).1, (eq_rg (h_508756) rc_0).2⟩ : Rg 0 0 x_508750)
              refine g_iconst C (v := 0) dX7_readOne_87 (by decide) ?_
              exact g_zret (ty := .boolean) (r := 0) B K rfl (rfl) ⟨hUI_508751, hF_508754, hG_508755, rg_w rc_0 (by decide) (by decide)⟩ dX7_readOne_88
            · skip
              have n_508758 : ¬ x_508750 = 0 := h_508756
              have r_508759 := ne_lo (lo := 1) n_508758 rx_508750 rc_0 rfl (by decide)
              refine g_iconst C (v := 1) dX7_readOne_83 (by decide) ?_
              refine g_goto C (tgt := 88) dX7_readOne_84 (by decide) ?_
              exact g_zret (ty := .boolean) (r := 1) B K rfl (rfl) ⟨hUI_508751, hF_508754, hG_508755, rg_w rc_1 (by decide) (by decide)⟩ dX7_readOne_88
      · skip
        have r_508760 := lt_r (lo := 9) (nle h_508695) rc_8 ra2 (by decide)
        exact rg_no r_508760 (by decide)
  · skip
    have r_508761 := (⟨(rx_508684).1, (eq_rg (h_508688) rc_0).2⟩ : Rg 0 0 x_508684)
    refine g_aload_n C 2 dX7_readOne_14 rfl rfl ?_
    refine g_iconst C (v := 1) dX7_readOne_15 (by decide) ?_
    refine g_callVI C K (c_X10_fail W9 hLa0 hka0 1 (rg_w rc_1 (by decide) (by decide)) hU) hLa0 hka0 (by decide) rfl v_7_73 rfl ⟨rfl, rfl⟩ ⟨Nat.le_of_ble_eq_true rfl, Nat.le_of_ble_eq_true rfl⟩ (Nat.le_of_ble_eq_true rfl) ⟨Nat.le_of_ble_eq_true rfl, Nat.le_of_ble_eq_true rfl⟩ dX7_readOne_16 rfl (st := []) (fun x_508762 I_508763 J_508764 h_508765 => ?_)
    obtain ⟨hUI_508763, hFI_508763, hGJ_508764, rx_508762⟩ := h_508765
    have hF_508766 := fq_tr hF hFI_508763 (by decide)
    have hG_508767 := fq_tr hG hGJ_508764 (by decide)
    exact g_zret (ty := .boolean) (r := x_508762) B K rfl (nar_z (rg_w rx_508762 (by decide) (by decide))) ⟨hUI_508763, hF_508766, hG_508767, rg_w rx_508762 (by decide) (by decide)⟩ dX7_readOne_19
set_option maxRecDepth 100000 in
set_option maxHeartbeats 8000000 in
theorem c_X7_readAll_7 {l : Launch} {D : va_G} {cy : Nat → ClassId} {L : List Nat} {κ ln : Nat → Nat} {R : Nat → Nat → Option Nat} {I : Nat → Nat → Int32} {J : Nat → Nat → Int64} {ow : Nat → Nat × Nat} (W9 : ∀ a ∈ L, Shp L κ ln R ow a) {x : Nat} (hLx : x ∈ L) (hkx : κ x = 7) {a0 : Nat} (hLa0 : a0 ∈ L) (hka0 : κ a0 = 10) {a1 : Nat} (hLa1 : a1 ∈ L) (hka1 : κ a1 = 8) (a2 : Int32) (ra2 : Rg 7 7 a2) (hU : Iv L κ R ow I) : CtI l yX7_readAll cX7_readAll 6 (some .boolean) { frames := 8, cells := 0, slots := 0, locals := 193 } D cy L κ ln R I J [.ref x, .ref a0, .ref a1, .int a2] (fun r I2 J2 => Iv L κ R ow I2 ∧ Fq L κ ow [704, 705, 1007, 1008, 1009, 1011, 1012, 52000, 52100, 52200] I I2 ∧ Fq L κ ow [1010] J J2 ∧ Rg 0 1 r) := by
  refine CtI.of (by decide +kernel) (Nat.le_of_ble_eq_true rfl) ?_
  intro p e s m below meth c B K
  have C := B.1
  have hF : Fq L κ ow [704, 705, 1007, 1008, 1009, 1011, 1012, 52000, 52100, 52200] I I := fq_rf
  have hG : Fq L κ ow [1010] J J := fq_rf
  refine g_lo (is := [0, 1, 2, 3]) (lo2 := [(0, .ref x), (1, .ref a0), (2, .ref a1), (3, .int a2)]) rfl ?_
  have l_12 : ∀ (n_12 : Nat) (I_509411 : Nat → Nat → Int32) (J_509412 : Nat → Nat → Int64) (hU_509413 : Iv L κ R ow I_509411) (hF_509414 : Fq L κ ow [704, 705, 1007, 1008, 1009, 1011, 1012, 52000, 52100, 52200] I I_509411) (hG_509415 : Fq L κ ow [1010] J J_509412) (v_509416 : Int32) (rv_509416 : Rg 7 7 v_509416) (v_509417 : Int32) (rv_509417 : Rg 0 1 v_509417) (v_509418 : Int32) (rv_509418 : Rg 0 20 v_509418) (hm_509419 : 20 < (v_509418 : Int32).toInt + (n_12 : Int)), WG p l e { frames := 8, cells := 0, slots := 0, locals := 193 } s m ([.ref x, .ref a0, .ref a1, .int a2] : List Value).toArray below meth c 6 0 0 (MQ below (Qi_ D cy L κ ln R (fun r I2 J2 => Iv L κ R ow I2 ∧ Fq L κ ow [704, 705, 1007, 1008, 1009, 1011, 1012, 52000, 52100, 52200] I I2 ∧ Fq L κ ow [1010] J J2 ∧ Rg 0 1 r)) ([.ref x, .ref a0, .ref a1, .int a2] : List Value).toArray s 0 0 (Al_ L)) D cy (Al_ L) s.heap L κ ln R I_509411 J_509412 12 [(0, .ref x), (1, .ref a0), (2, .ref a1), (3, .int v_509416), (4, .int v_509417), (5, .int v_509418)] [] := by
    intro n_12
    induction n_12 with
    | zero =>
      intro I_509411 J_509412 hU_509413 hF_509414 hG_509415 v_509416 rv_509416 v_509417 rv_509417 v_509418 rv_509418 hm_509419
      exact ms_0 rv_509418 hm_509419
    | succ n_12 ih_12 =>
      intro I_509411 J_509412 hU_509413 hF_509414 hG_509415 v_509416 rv_509416 v_509417 rv_509417 v_509418 rv_509418 hm_509419
      have j_62 : ∀ (I_509420 : Nat → Nat → Int32) (J_509421 : Nat → Nat → Int64) (hU_509422 : Iv L κ R ow I_509420) (hF_509423 : Fq L κ ow [704, 705, 1007, 1008, 1009, 1011, 1012, 52000, 52100, 52200] I I_509420) (hG_509424 : Fq L κ ow [1010] J J_509421) (v_509425 : Int32) (rv_509425 : Rg 7 7 v_509425) (v_509426 : Int32) (rv_509426 : Rg 1 1 v_509426) (nv_509426_0 : ¬ v_509426 = 0) (v_509427 : Int32) (rv_509427 : Rg 0 19 v_509427) (hm_509428 : 20 < (v_509427 : Int32).toInt + ((n_12 + 1 : Nat) : Int)), WG p l e { frames := 8, cells := 0, slots := 0, locals := 193 } s m ([.ref x, .ref a0, .ref a1, .int a2] : List Value).toArray below meth c 6 0 0 (MQ below (Qi_ D cy L κ ln R (fun r I2 J2 => Iv L κ R ow I2 ∧ Fq L κ ow [704, 705, 1007, 1008, 1009, 1011, 1012, 52000, 52100, 52200] I I2 ∧ Fq L κ ow [1010] J J2 ∧ Rg 0 1 r)) ([.ref x, .ref a0, .ref a1, .int a2] : List Value).toArray s 0 0 (Al_ L)) D cy (Al_ L) s.heap L κ ln R I_509420 J_509421 62 [(0, .ref x), (1, .ref a0), (2, .ref a1), (3, .int v_509425), (4, .int v_509426), (5, .int v_509427)] [] := by
        intro I_509420 J_509421 hU_509422 hF_509423 hG_509424 v_509425 rv_509425 v_509426 rv_509426 nv_509426_0 v_509427 rv_509427 hm_509428
        refine g_iconst C (v := 0) dX7_readAll_62 (by decide) ?_
        refine g_istore C dX7_readAll_63 (by decide) (lo2 := [(4, .int 0), (0, .ref x), (1, .ref a0), (2, .ref a1), (3, .int v_509425), (5, .int v_509427)]) rfl ?_
        obtain ⟨x_509429, hx_509429, rx_509429, tx_509429⟩ := ex_add (y := 1) 1 20 rv_509427 rc_1 (by decide) (by decide) (by decide) (by decide)
        refine g_iinc C dX7_readAll_65 (k := 5) (v := x_509429) rfl hx_509429 (by decide) (lo2 := [(5, .int x_509429), (4, .int 0), (0, .ref x), (1, .ref a0), (2, .ref a1), (3, .int v_509425)]) rfl ?_
        refine g_goto C (tgt := 12) dX7_readAll_68 (by decide) ?_
        refine g_lo (is := [2, 3, 4, 5, 1, 0]) (lo2 := [(0, .ref x), (1, .ref a0), (2, .ref a1), (3, .int v_509425), (4, .int 0), (5, .int x_509429)]) rfl ?_
        exact ih_12 I_509420 J_509421 hU_509422 hF_509423 hG_509424 v_509425 (rv_509425) 0 (rg_w rc_0 (by decide) (by decide)) x_509429 (rg_w rx_509429 (by decide) (by decide)) (ms_1 hm_509428 (ti_k tx_509429 rc_1) (by decide))
      refine g_iload C 5 dX7_readAll_12 rfl ?_
      refine g_bipush C (v := 20) dX7_readAll_14 (by decide) ?_
      refine g_icmp_ge C (tgt := 71) dX7_readAll_16 (by decide) (fun h_509430 => ?_) (fun h_509430 => ?_)
      · skip
        have r_509431 := le_r (h_509430) rc_20 rv_509418
        refine g_iload C 4 dX7_readAll_71 rfl ?_
        exact g_zret (ty := .boolean) (r := v_509417) B K rfl (nar_z (rv_509417)) ⟨hU_509413, hF_509414, hG_509415, rv_509417⟩ dX7_readAll_73
      · skip
        have r_509432 := lt_l (hi := 19) (nle h_509430) rv_509418 rc_20 (by decide)
        refine g_iload C 4 dX7_readAll_19 rfl ?_
        refine g_if_eq C (tgt := 71) dX7_readAll_21 (by decide) (fun h_509433 => ?_) (fun h_509433 => ?_)
        · skip
          have r_509434 := (⟨(rv_509417).1, (eq_rg (h_509433) rc_0).2⟩ : Rg 0 0 v_509417)
          refine g_iload C 4 dX7_readAll_71 rfl ?_
          exact g_zret (ty := .boolean) (r := v_509417) B K rfl (nar_z (rg_w r_509434 (by decide) (by decide))) ⟨hU_509413, hF_509414, hG_509415, rg_w r_509434 (by decide) (by decide)⟩ dX7_readAll_73
        · skip
          have n_509435 : ¬ v_509417 = 0 := h_509433
          have r_509436 := ne_lo (lo := 1) n_509435 rv_509417 rc_0 rfl (by decide)
          refine g_aload_n C 1 dX7_readAll_24 rfl rfl ?_
          obtain ⟨x_509437, hx_509437, rx_509437⟩ := ex_get (I := I_509411) (a := a0) (j := 8) (lo := (-2147483648)) (hi := 2147483647) hU_509413.1 hLa0 (ro_o hka0 (by decide)) rfl
          refine g_getI C K hLa0 hka0 f_7_57 (v := x_509437) hx_509437 dX7_readAll_25 ?_
          refine g_bipush C (v := 18) dX7_readAll_28 (by decide) ?_
          refine g_icmp_ne C (tgt := 71) dX7_readAll_30 (by decide) (fun h_509438 => ?_) (fun h_509438 => ?_)
          · skip
            have n_509439 : ¬ x_509437 = 18 := h_509438
            refine g_iload C 4 dX7_readAll_71 rfl ?_
            exact g_zret (ty := .boolean) (r := v_509417) B K rfl (nar_z (rg_w r_509436 (by decide) (by decide))) ⟨hU_509413, hF_509414, hG_509415, rg_w r_509436 (by decide) (by decide)⟩ dX7_readAll_73
          · skip
            have r_509440 := (⟨(eq_rg (h_509438) rc_18).1, (eq_rg (h_509438) rc_18).2⟩ : Rg 18 18 x_509437)
            refine g_aload_n C 1 dX7_readAll_33 rfl rfl ?_
            refine g_callVV C K (c_X10_advance W9 hLa0 hka0   hU_509413) hLa0 hka0 (by decide) rfl v_7_60 rfl ⟨rfl, rfl⟩ ⟨Nat.le_of_ble_eq_true rfl, Nat.le_of_ble_eq_true rfl⟩ (Nat.le_of_ble_eq_true rfl) ⟨Nat.le_of_ble_eq_true rfl, Nat.le_of_ble_eq_true rfl⟩ dX7_readAll_34 rfl (st := []) (fun I_509442 J_509443 h_509444 => ?_)
            obtain ⟨hUI_509442, hFI_509442, hGJ_509443⟩ := h_509444
            have hF_509445 := fq_tr hF_509414 hFI_509442 (by decide)
            have hG_509446 := fq_tr hG_509415 hGJ_509443 (by decide)
            refine g_aload_n C 0 dX7_readAll_37 rfl rfl ?_
            refine g_aload_n C 1 dX7_readAll_38 rfl rfl ?_
            refine g_aload_n C 2 dX7_readAll_39 rfl rfl ?_
            refine g_iload_n C 3 dX7_readAll_40 rfl rfl ?_
            refine g_callVI C K (c_X7_readOne_7 W9 hLx hkx hLa0 hka0 hLa1 hka1 v_509416 (rv_509416) hUI_509442) hLx hkx (by decide) rfl v_7_67 rfl ⟨rfl, rfl⟩ ⟨Nat.le_of_ble_eq_true rfl, Nat.le_of_ble_eq_true rfl⟩ (Nat.le_of_ble_eq_true rfl) ⟨Nat.le_of_ble_eq_true rfl, Nat.le_of_ble_eq_true rfl⟩ dX7_readAll_41 rfl (st := []) (fun x_509447 I_509448 J_509449 h_509450 => ?_)
            obtain ⟨hUI_509448, hFI_509448, hGJ_509449, rx_509447⟩ := h_509450
            have hF_509451 := fq_tr hF_509445 hFI_509448 (by decide)
            have hG_509452 := fq_tr hG_509446 hGJ_509449 (by decide)
            refine g_if_eq C (tgt := 62) dX7_readAll_44 (by decide) (fun h_509453 => ?_) (fun h_509453 => ?_)
            · skip
              have r_509454 := (⟨(rx_509447).1, (eq_rg (h_509453) rc_0).2⟩ : Rg 0 0 x_509447)
              refine g_lo (is := [0, 1, 2, 3, 4, 5]) (lo2 := [(0, .ref x), (1, .ref a0), (2, .ref a1), (3, .int v_509416), (4, .int v_509417), (5, .int v_509418)]) rfl ?_
              exact j_62 I_509448 J_509449 hUI_509448 hF_509451 hG_509452 v_509416 (rv_509416) v_509417 (r_509436) (n_509435) v_509418 (r_509432) hm_509419
            · skip
              have n_509455 : ¬ x_509447 = 0 := h_509453
              have r_509456 := ne_lo (lo := 1) n_509455 rx_509447 rc_0 rfl (by decide)
              refine g_aload_n C 0 dX7_readAll_47 rfl rfl ?_
              refine g_bipush C (v := 18) dX7_readAll_48 (by decide) ?_
              refine g_iconst C (v := 0) dX7_readAll_50 (by decide) ?_
              refine g_iconst C (v := 0) dX7_readAll_51 (by decide) ?_
              refine g_callVI C K (c_X7_addStep W9 hLx hkx 18 0 0 (rg_w rc_0 (by decide) (by decide)) hUI_509448  (fun q => absurd q (by decide))) hLx hkx (by decide) rfl v_7_63 rfl ⟨rfl, rfl⟩ ⟨Nat.le_of_ble_eq_true rfl, Nat.le_of_ble_eq_true rfl⟩ (Nat.le_of_ble_eq_true rfl) ⟨Nat.le_of_ble_eq_true rfl, Nat.le_of_ble_eq_true rfl⟩ dX7_readAll_52 rfl (st := []) (fun x_509457 I_509458 J_509459 h_509460 => ?_)
              obtain ⟨hUI_509458, hFI_509458, hGJ_509459, rx_509457⟩ := h_509460
              have hF_509461 := fq_tr hF_509451 hFI_509458 (by decide)
              have hG_509462 := fq_tr hG_509452 hGJ_509459 (by decide)
              refine g_if_eq C (tgt := 62) dX7_readAll_55 (by decide) (fun h_509463 => ?_) (fun h_509463 => ?_)
              · skip
                have r_509464 := (⟨(rx_509457).1, (eq_rg (h_509463) rc_0).2⟩ : Rg 0 0 x_509457)
                refine g_lo (is := [0, 1, 2, 3, 4, 5]) (lo2 := [(0, .ref x), (1, .ref a0), (2, .ref a1), (3, .int v_509416), (4, .int v_509417), (5, .int v_509418)]) rfl ?_
                exact j_62 I_509458 J_509459 hUI_509458 hF_509461 hG_509462 v_509416 (rv_509416) v_509417 (r_509436) (n_509435) v_509418 (r_509432) hm_509419
              · skip
                have n_509465 : ¬ x_509457 = 0 := h_509463
                have r_509466 := ne_lo (lo := 1) n_509465 rx_509457 rc_0 rfl (by decide)
                refine g_iconst C (v := 1) dX7_readAll_58 (by decide) ?_
                refine g_goto C (tgt := 63) dX7_readAll_59 (by decide) ?_
                refine g_istore C dX7_readAll_63 (by decide) (lo2 := [(4, .int 1), (0, .ref x), (1, .ref a0), (2, .ref a1), (3, .int v_509416), (5, .int v_509418)]) rfl ?_
                obtain ⟨x_509467, hx_509467, rx_509467, tx_509467⟩ := ex_add (y := 1) 1 20 r_509432 rc_1 (by decide) (by decide) (by decide) (by decide)
                refine g_iinc C dX7_readAll_65 (k := 5) (v := x_509467) rfl hx_509467 (by decide) (lo2 := [(5, .int x_509467), (4, .int 1), (0, .ref x), (1, .ref a0), (2, .ref a1), (3, .int v_509416)]) rfl ?_
                refine g_goto C (tgt := 12) dX7_readAll_68 (by decide) ?_
                refine g_lo (is := [2, 3, 4, 5, 1, 0]) (lo2 := [(0, .ref x), (1, .ref a0), (2, .ref a1), (3, .int v_509416), (4, .int 1), (5, .int x_509467)]) rfl ?_
                exact ih_12 I_509458 J_509459 hUI_509458 hF_509461 hG_509462 v_509416 (rv_509416) 1 (rg_w rc_1 (by decide) (by decide)) x_509467 (rg_w rx_509467 (by decide) (by decide)) (ms_1 hm_509419 (ti_k tx_509467 rc_1) (by decide))
  refine g_aload_n C 0 dX7_readAll_0 rfl rfl ?_
  refine g_aload_n C 1 dX7_readAll_1 rfl rfl ?_
  refine g_aload_n C 2 dX7_readAll_2 rfl rfl ?_
  refine g_iload_n C 3 dX7_readAll_3 rfl rfl ?_
  refine g_callVI C K (c_X7_readOne_7 W9 hLx hkx hLa0 hka0 hLa1 hka1 a2 (ra2) hU) hLx hkx (by decide) rfl v_7_67 rfl ⟨rfl, rfl⟩ ⟨Nat.le_of_ble_eq_true rfl, Nat.le_of_ble_eq_true rfl⟩ (Nat.le_of_ble_eq_true rfl) ⟨Nat.le_of_ble_eq_true rfl, Nat.le_of_ble_eq_true rfl⟩ dX7_readAll_4 rfl (st := []) (fun x_509468 I_509469 J_509470 h_509471 => ?_)
  obtain ⟨hUI_509469, hFI_509469, hGJ_509470, rx_509468⟩ := h_509471
  have hF_509472 := fq_tr hF hFI_509469 (by decide)
  have hG_509473 := fq_tr hG hGJ_509470 (by decide)
  refine g_istore C dX7_readAll_7 (by decide) (lo2 := [(4, .int x_509468), (0, .ref x), (1, .ref a0), (2, .ref a1), (3, .int a2)]) rfl ?_
  refine g_iconst C (v := 0) dX7_readAll_9 (by decide) ?_
  refine g_istore C dX7_readAll_10 (by decide) (lo2 := [(5, .int 0), (4, .int x_509468), (0, .ref x), (1, .ref a0), (2, .ref a1), (3, .int a2)]) rfl ?_
  refine g_lo (is := [2, 3, 4, 5, 1, 0]) (lo2 := [(0, .ref x), (1, .ref a0), (2, .ref a1), (3, .int a2), (4, .int x_509468), (5, .int 0)]) rfl ?_
  exact l_12 21 I_509469 J_509470 hUI_509469 hF_509472 hG_509473 a2 (ra2) x_509468 (rx_509468) 0 (rg_w rc_0 (by decide) (by decide)) (ms_s (a := 0) (b := 20) (N := 21) (rg_w rc_0 (by decide) (by decide)) (by decide))
set_option maxRecDepth 100000 in
set_option maxHeartbeats 8000000 in
theorem c_X7_readCond_7 {l : Launch} {D : va_G} {cy : Nat → ClassId} {L : List Nat} {κ ln : Nat → Nat} {R : Nat → Nat → Option Nat} {I : Nat → Nat → Int32} {J : Nat → Nat → Int64} {ow : Nat → Nat × Nat} (W9 : ∀ a ∈ L, Shp L κ ln R ow a) {x : Nat} (hLx : x ∈ L) (hkx : κ x = 7) {a0 : Nat} (hLa0 : a0 ∈ L) (hka0 : κ a0 = 10) {a1 : Nat} (hLa1 : a1 ∈ L) (hka1 : κ a1 = 8) (a2 : Int32) (ra2 : Rg 7 7 a2) (hU : Iv L κ R ow I) : CtI l yX7_readCond cX7_readCond 6 (some .boolean) { frames := 9, cells := 0, slots := 0, locals := 218 } D cy L κ ln R I J [.ref x, .ref a0, .ref a1, .int a2] (fun r I2 J2 => Iv L κ R ow I2 ∧ Fq L κ ow [704, 705, 1007, 1008, 1009, 1011, 1012, 52000, 52100, 52200] I I2 ∧ Fq L κ ow [1010] J J2 ∧ Rg 0 1 r) := by
  refine CtI.of (by decide +kernel) (Nat.le_of_ble_eq_true rfl) ?_
  intro p e s m below meth c B K
  have C := B.1
  have hF : Fq L κ ow [704, 705, 1007, 1008, 1009, 1011, 1012, 52000, 52100, 52200] I I := fq_rf
  have hG : Fq L κ ow [1010] J J := fq_rf
  refine g_lo (is := [0, 1, 2, 3]) (lo2 := [(0, .ref x), (1, .ref a0), (2, .ref a1), (3, .int a2)]) rfl ?_
  have l_12 : ∀ (n_12 : Nat) (I_510154 : Nat → Nat → Int32) (J_510155 : Nat → Nat → Int64) (hU_510156 : Iv L κ R ow I_510154) (hF_510157 : Fq L κ ow [704, 705, 1007, 1008, 1009, 1011, 1012, 52000, 52100, 52200] I I_510154) (hG_510158 : Fq L κ ow [1010] J J_510155) (v_510159 : Int32) (rv_510159 : Rg 7 7 v_510159) (v_510160 : Int32) (rv_510160 : Rg 0 1 v_510160) (v_510161 : Int32) (rv_510161 : Rg 0 20 v_510161) (hm_510162 : 20 < (v_510161 : Int32).toInt + (n_12 : Int)), WG p l e { frames := 9, cells := 0, slots := 0, locals := 218 } s m ([.ref x, .ref a0, .ref a1, .int a2] : List Value).toArray below meth c 6 0 0 (MQ below (Qi_ D cy L κ ln R (fun r I2 J2 => Iv L κ R ow I2 ∧ Fq L κ ow [704, 705, 1007, 1008, 1009, 1011, 1012, 52000, 52100, 52200] I I2 ∧ Fq L κ ow [1010] J J2 ∧ Rg 0 1 r)) ([.ref x, .ref a0, .ref a1, .int a2] : List Value).toArray s 0 0 (Al_ L)) D cy (Al_ L) s.heap L κ ln R I_510154 J_510155 12 [(0, .ref x), (1, .ref a0), (2, .ref a1), (3, .int v_510159), (4, .int v_510160), (5, .int v_510161)] [] := by
    intro n_12
    induction n_12 with
    | zero =>
      intro I_510154 J_510155 hU_510156 hF_510157 hG_510158 v_510159 rv_510159 v_510160 rv_510160 v_510161 rv_510161 hm_510162
      exact ms_0 rv_510161 hm_510162
    | succ n_12 ih_12 =>
      intro I_510154 J_510155 hU_510156 hF_510157 hG_510158 v_510159 rv_510159 v_510160 rv_510160 v_510161 rv_510161 hm_510162
      have j_62 : ∀ (I_510163 : Nat → Nat → Int32) (J_510164 : Nat → Nat → Int64) (hU_510165 : Iv L κ R ow I_510163) (hF_510166 : Fq L κ ow [704, 705, 1007, 1008, 1009, 1011, 1012, 52000, 52100, 52200] I I_510163) (hG_510167 : Fq L κ ow [1010] J J_510164) (v_510168 : Int32) (rv_510168 : Rg 7 7 v_510168) (v_510169 : Int32) (rv_510169 : Rg 1 1 v_510169) (nv_510169_0 : ¬ v_510169 = 0) (v_510170 : Int32) (rv_510170 : Rg 0 19 v_510170) (hm_510171 : 20 < (v_510170 : Int32).toInt + ((n_12 + 1 : Nat) : Int)), WG p l e { frames := 9, cells := 0, slots := 0, locals := 218 } s m ([.ref x, .ref a0, .ref a1, .int a2] : List Value).toArray below meth c 6 0 0 (MQ below (Qi_ D cy L κ ln R (fun r I2 J2 => Iv L κ R ow I2 ∧ Fq L κ ow [704, 705, 1007, 1008, 1009, 1011, 1012, 52000, 52100, 52200] I I2 ∧ Fq L κ ow [1010] J J2 ∧ Rg 0 1 r)) ([.ref x, .ref a0, .ref a1, .int a2] : List Value).toArray s 0 0 (Al_ L)) D cy (Al_ L) s.heap L κ ln R I_510163 J_510164 62 [(0, .ref x), (1, .ref a0), (2, .ref a1), (3, .int v_510168), (4, .int v_510169), (5, .int v_510170)] [] := by
        intro I_510163 J_510164 hU_510165 hF_510166 hG_510167 v_510168 rv_510168 v_510169 rv_510169 nv_510169_0 v_510170 rv_510170 hm_510171
        refine g_iconst C (v := 0) dX7_readCond_62 (by decide) ?_
        refine g_istore C dX7_readCond_63 (by decide) (lo2 := [(4, .int 0), (0, .ref x), (1, .ref a0), (2, .ref a1), (3, .int v_510168), (5, .int v_510170)]) rfl ?_
        obtain ⟨x_510172, hx_510172, rx_510172, tx_510172⟩ := ex_add (y := 1) 1 20 rv_510170 rc_1 (by decide) (by decide) (by decide) (by decide)
        refine g_iinc C dX7_readCond_65 (k := 5) (v := x_510172) rfl hx_510172 (by decide) (lo2 := [(5, .int x_510172), (4, .int 0), (0, .ref x), (1, .ref a0), (2, .ref a1), (3, .int v_510168)]) rfl ?_
        refine g_goto C (tgt := 12) dX7_readCond_68 (by decide) ?_
        refine g_lo (is := [2, 3, 4, 5, 1, 0]) (lo2 := [(0, .ref x), (1, .ref a0), (2, .ref a1), (3, .int v_510168), (4, .int 0), (5, .int x_510172)]) rfl ?_
        exact ih_12 I_510163 J_510164 hU_510165 hF_510166 hG_510167 v_510168 (rv_510168) 0 (rg_w rc_0 (by decide) (by decide)) x_510172 (rg_w rx_510172 (by decide) (by decide)) (ms_1 hm_510171 (ti_k tx_510172 rc_1) (by decide))
      refine g_iload C 5 dX7_readCond_12 rfl ?_
      refine g_bipush C (v := 20) dX7_readCond_14 (by decide) ?_
      refine g_icmp_ge C (tgt := 71) dX7_readCond_16 (by decide) (fun h_510173 => ?_) (fun h_510173 => ?_)
      · skip
        have r_510174 := le_r (h_510173) rc_20 rv_510161
        refine g_iload C 4 dX7_readCond_71 rfl ?_
        exact g_zret (ty := .boolean) (r := v_510160) B K rfl (nar_z (rv_510160)) ⟨hU_510156, hF_510157, hG_510158, rv_510160⟩ dX7_readCond_73
      · skip
        have r_510175 := lt_l (hi := 19) (nle h_510173) rv_510161 rc_20 (by decide)
        refine g_iload C 4 dX7_readCond_19 rfl ?_
        refine g_if_eq C (tgt := 71) dX7_readCond_21 (by decide) (fun h_510176 => ?_) (fun h_510176 => ?_)
        · skip
          have r_510177 := (⟨(rv_510160).1, (eq_rg (h_510176) rc_0).2⟩ : Rg 0 0 v_510160)
          refine g_iload C 4 dX7_readCond_71 rfl ?_
          exact g_zret (ty := .boolean) (r := v_510160) B K rfl (nar_z (rg_w r_510177 (by decide) (by decide))) ⟨hU_510156, hF_510157, hG_510158, rg_w r_510177 (by decide) (by decide)⟩ dX7_readCond_73
        · skip
          have n_510178 : ¬ v_510160 = 0 := h_510176
          have r_510179 := ne_lo (lo := 1) n_510178 rv_510160 rc_0 rfl (by decide)
          refine g_aload_n C 1 dX7_readCond_24 rfl rfl ?_
          obtain ⟨x_510180, hx_510180, rx_510180⟩ := ex_get (I := I_510154) (a := a0) (j := 8) (lo := (-2147483648)) (hi := 2147483647) hU_510156.1 hLa0 (ro_o hka0 (by decide)) rfl
          refine g_getI C K hLa0 hka0 f_7_57 (v := x_510180) hx_510180 dX7_readCond_25 ?_
          refine g_bipush C (v := 17) dX7_readCond_28 (by decide) ?_
          refine g_icmp_ne C (tgt := 71) dX7_readCond_30 (by decide) (fun h_510181 => ?_) (fun h_510181 => ?_)
          · skip
            have n_510182 : ¬ x_510180 = 17 := h_510181
            refine g_iload C 4 dX7_readCond_71 rfl ?_
            exact g_zret (ty := .boolean) (r := v_510160) B K rfl (nar_z (rg_w r_510179 (by decide) (by decide))) ⟨hU_510156, hF_510157, hG_510158, rg_w r_510179 (by decide) (by decide)⟩ dX7_readCond_73
          · skip
            have r_510183 := (⟨(eq_rg (h_510181) rc_17).1, (eq_rg (h_510181) rc_17).2⟩ : Rg 17 17 x_510180)
            refine g_aload_n C 1 dX7_readCond_33 rfl rfl ?_
            refine g_callVV C K (c_X10_advance W9 hLa0 hka0   hU_510156) hLa0 hka0 (by decide) rfl v_7_60 rfl ⟨rfl, rfl⟩ ⟨Nat.le_of_ble_eq_true rfl, Nat.le_of_ble_eq_true rfl⟩ (Nat.le_of_ble_eq_true rfl) ⟨Nat.le_of_ble_eq_true rfl, Nat.le_of_ble_eq_true rfl⟩ dX7_readCond_34 rfl (st := []) (fun I_510185 J_510186 h_510187 => ?_)
            obtain ⟨hUI_510185, hFI_510185, hGJ_510186⟩ := h_510187
            have hF_510188 := fq_tr hF_510157 hFI_510185 (by decide)
            have hG_510189 := fq_tr hG_510158 hGJ_510186 (by decide)
            refine g_aload_n C 0 dX7_readCond_37 rfl rfl ?_
            refine g_aload_n C 1 dX7_readCond_38 rfl rfl ?_
            refine g_aload_n C 2 dX7_readCond_39 rfl rfl ?_
            refine g_iload_n C 3 dX7_readCond_40 rfl rfl ?_
            refine g_callVI C K (c_X7_readAll_7 W9 hLx hkx hLa0 hka0 hLa1 hka1 v_510159 (rv_510159) hUI_510185) hLx hkx (by decide) rfl v_7_54 rfl ⟨rfl, rfl⟩ ⟨Nat.le_of_ble_eq_true rfl, Nat.le_of_ble_eq_true rfl⟩ (Nat.le_of_ble_eq_true rfl) ⟨Nat.le_of_ble_eq_true rfl, Nat.le_of_ble_eq_true rfl⟩ dX7_readCond_41 rfl (st := []) (fun x_510190 I_510191 J_510192 h_510193 => ?_)
            obtain ⟨hUI_510191, hFI_510191, hGJ_510192, rx_510190⟩ := h_510193
            have hF_510194 := fq_tr hF_510188 hFI_510191 (by decide)
            have hG_510195 := fq_tr hG_510189 hGJ_510192 (by decide)
            refine g_if_eq C (tgt := 62) dX7_readCond_44 (by decide) (fun h_510196 => ?_) (fun h_510196 => ?_)
            · skip
              have r_510197 := (⟨(rx_510190).1, (eq_rg (h_510196) rc_0).2⟩ : Rg 0 0 x_510190)
              refine g_lo (is := [0, 1, 2, 3, 4, 5]) (lo2 := [(0, .ref x), (1, .ref a0), (2, .ref a1), (3, .int v_510159), (4, .int v_510160), (5, .int v_510161)]) rfl ?_
              exact j_62 I_510191 J_510192 hUI_510191 hF_510194 hG_510195 v_510159 (rv_510159) v_510160 (r_510179) (n_510178) v_510161 (r_510175) hm_510162
            · skip
              have n_510198 : ¬ x_510190 = 0 := h_510196
              have r_510199 := ne_lo (lo := 1) n_510198 rx_510190 rc_0 rfl (by decide)
              refine g_aload_n C 0 dX7_readCond_47 rfl rfl ?_
              refine g_bipush C (v := 17) dX7_readCond_48 (by decide) ?_
              refine g_iconst C (v := 0) dX7_readCond_50 (by decide) ?_
              refine g_iconst C (v := 0) dX7_readCond_51 (by decide) ?_
              refine g_callVI C K (c_X7_addStep W9 hLx hkx 17 0 0 (rg_w rc_0 (by decide) (by decide)) hUI_510191  (fun q => absurd q (by decide))) hLx hkx (by decide) rfl v_7_63 rfl ⟨rfl, rfl⟩ ⟨Nat.le_of_ble_eq_true rfl, Nat.le_of_ble_eq_true rfl⟩ (Nat.le_of_ble_eq_true rfl) ⟨Nat.le_of_ble_eq_true rfl, Nat.le_of_ble_eq_true rfl⟩ dX7_readCond_52 rfl (st := []) (fun x_510200 I_510201 J_510202 h_510203 => ?_)
              obtain ⟨hUI_510201, hFI_510201, hGJ_510202, rx_510200⟩ := h_510203
              have hF_510204 := fq_tr hF_510194 hFI_510201 (by decide)
              have hG_510205 := fq_tr hG_510195 hGJ_510202 (by decide)
              refine g_if_eq C (tgt := 62) dX7_readCond_55 (by decide) (fun h_510206 => ?_) (fun h_510206 => ?_)
              · skip
                have r_510207 := (⟨(rx_510200).1, (eq_rg (h_510206) rc_0).2⟩ : Rg 0 0 x_510200)
                refine g_lo (is := [0, 1, 2, 3, 4, 5]) (lo2 := [(0, .ref x), (1, .ref a0), (2, .ref a1), (3, .int v_510159), (4, .int v_510160), (5, .int v_510161)]) rfl ?_
                exact j_62 I_510201 J_510202 hUI_510201 hF_510204 hG_510205 v_510159 (rv_510159) v_510160 (r_510179) (n_510178) v_510161 (r_510175) hm_510162
              · skip
                have n_510208 : ¬ x_510200 = 0 := h_510206
                have r_510209 := ne_lo (lo := 1) n_510208 rx_510200 rc_0 rfl (by decide)
                refine g_iconst C (v := 1) dX7_readCond_58 (by decide) ?_
                refine g_goto C (tgt := 63) dX7_readCond_59 (by decide) ?_
                refine g_istore C dX7_readCond_63 (by decide) (lo2 := [(4, .int 1), (0, .ref x), (1, .ref a0), (2, .ref a1), (3, .int v_510159), (5, .int v_510161)]) rfl ?_
                obtain ⟨x_510210, hx_510210, rx_510210, tx_510210⟩ := ex_add (y := 1) 1 20 r_510175 rc_1 (by decide) (by decide) (by decide) (by decide)
                refine g_iinc C dX7_readCond_65 (k := 5) (v := x_510210) rfl hx_510210 (by decide) (lo2 := [(5, .int x_510210), (4, .int 1), (0, .ref x), (1, .ref a0), (2, .ref a1), (3, .int v_510159)]) rfl ?_
                refine g_goto C (tgt := 12) dX7_readCond_68 (by decide) ?_
                refine g_lo (is := [2, 3, 4, 5, 1, 0]) (lo2 := [(0, .ref x), (1, .ref a0), (2, .ref a1), (3, .int v_510159), (4, .int 1), (5, .int x_510210)]) rfl ?_
                exact ih_12 I_510201 J_510202 hUI_510201 hF_510204 hG_510205 v_510159 (rv_510159) 1 (rg_w rc_1 (by decide) (by decide)) x_510210 (rg_w rx_510210 (by decide) (by decide)) (ms_1 hm_510162 (ti_k tx_510210 rc_1) (by decide))
  refine g_aload_n C 0 dX7_readCond_0 rfl rfl ?_
  refine g_aload_n C 1 dX7_readCond_1 rfl rfl ?_
  refine g_aload_n C 2 dX7_readCond_2 rfl rfl ?_
  refine g_iload_n C 3 dX7_readCond_3 rfl rfl ?_
  refine g_callVI C K (c_X7_readAll_7 W9 hLx hkx hLa0 hka0 hLa1 hka1 a2 (ra2) hU) hLx hkx (by decide) rfl v_7_54 rfl ⟨rfl, rfl⟩ ⟨Nat.le_of_ble_eq_true rfl, Nat.le_of_ble_eq_true rfl⟩ (Nat.le_of_ble_eq_true rfl) ⟨Nat.le_of_ble_eq_true rfl, Nat.le_of_ble_eq_true rfl⟩ dX7_readCond_4 rfl (st := []) (fun x_510211 I_510212 J_510213 h_510214 => ?_)
  obtain ⟨hUI_510212, hFI_510212, hGJ_510213, rx_510211⟩ := h_510214
  have hF_510215 := fq_tr hF hFI_510212 (by decide)
  have hG_510216 := fq_tr hG hGJ_510213 (by decide)
  refine g_istore C dX7_readCond_7 (by decide) (lo2 := [(4, .int x_510211), (0, .ref x), (1, .ref a0), (2, .ref a1), (3, .int a2)]) rfl ?_
  refine g_iconst C (v := 0) dX7_readCond_9 (by decide) ?_
  refine g_istore C dX7_readCond_10 (by decide) (lo2 := [(5, .int 0), (4, .int x_510211), (0, .ref x), (1, .ref a0), (2, .ref a1), (3, .int a2)]) rfl ?_
  refine g_lo (is := [2, 3, 4, 5, 1, 0]) (lo2 := [(0, .ref x), (1, .ref a0), (2, .ref a1), (3, .int a2), (4, .int x_510211), (5, .int 0)]) rfl ?_
  exact l_12 21 I_510212 J_510213 hUI_510212 hF_510215 hG_510216 a2 (ra2) x_510211 (rx_510211) 0 (rg_w rc_0 (by decide) (by decide)) (ms_s (a := 0) (b := 20) (N := 21) (rg_w rc_0 (by decide) (by decide)) (by decide))
set_option maxRecDepth 100000 in
set_option maxHeartbeats 8000000 in
theorem c_X7_readOne_6 {l : Launch} {D : va_G} {cy : Nat → ClassId} {L : List Nat} {κ ln : Nat → Nat} {R : Nat → Nat → Option Nat} {I : Nat → Nat → Int32} {J : Nat → Nat → Int64} {ow : Nat → Nat × Nat} (W9 : ∀ a ∈ L, Shp L κ ln R ow a) {x : Nat} (hLx : x ∈ L) (hkx : κ x = 7) {a0 : Nat} (hLa0 : a0 ∈ L) (hka0 : κ a0 = 10) {a1 : Nat} (hLa1 : a1 ∈ L) (hka1 : κ a1 = 8) (a2 : Int32) (ra2 : Rg 6 6 a2) (hU : Iv L κ R ow I) : CtI l yX7_readOne cX7_readOne 5 (some .boolean) { frames := 10, cells := 0, slots := 0, locals := 243 } D cy L κ ln R I J [.ref x, .ref a0, .ref a1, .int a2] (fun r I2 J2 => Iv L κ R ow I2 ∧ Fq L κ ow [704, 705, 1007, 1008, 1009, 1011, 1012, 52000, 52100, 52200] I I2 ∧ Fq L κ ow [1010] J J2 ∧ Rg 0 1 r) := by
  refine CtI.of (by decide +kernel) (Nat.le_of_ble_eq_true rfl) ?_
  intro p e s m below meth c B K
  have C := B.1
  have hF : Fq L κ ow [704, 705, 1007, 1008, 1009, 1011, 1012, 52000, 52100, 52200] I I := fq_rf
  have hG : Fq L κ ow [1010] J J := fq_rf
  refine g_lo (is := [0, 1, 2, 3]) (lo2 := [(0, .ref x), (1, .ref a0), (2, .ref a1), (3, .int a2)]) rfl ?_
  have j_35 : ∀ (I_510399 : Nat → Nat → Int32) (J_510400 : Nat → Nat → Int64) (hU_510401 : Iv L κ R ow I_510399) (hF_510402 : Fq L κ ow [704, 705, 1007, 1008, 1009, 1011, 1012, 52000, 52100, 52200] I I_510399) (hG_510403 : Fq L κ ow [1010] J J_510400) (v_510404 : Int32) (rv_510404 : Rg 6 6 v_510404) (v_510405 : Int32) (v_510406 : Int32) (rv_510406 : Rg 20 2147483647 v_510406) (q_510407 : I_510399 a0 8 = v_510405) (q_510408 : I_510399 x 5 = v_510406), WG p l e { frames := 10, cells := 0, slots := 0, locals := 243 } s m ([.ref x, .ref a0, .ref a1, .int a2] : List Value).toArray below meth c 5 0 0 (MQ below (Qi_ D cy L κ ln R (fun r I2 J2 => Iv L κ R ow I2 ∧ Fq L κ ow [704, 705, 1007, 1008, 1009, 1011, 1012, 52000, 52100, 52200] I I2 ∧ Fq L κ ow [1010] J J2 ∧ Rg 0 1 r)) ([.ref x, .ref a0, .ref a1, .int a2] : List Value).toArray s 0 0 (Al_ L)) D cy (Al_ L) s.heap L κ ln R I_510399 J_510400 35 [(0, .ref x), (1, .ref a0), (2, .ref a1), (3, .int v_510404), (4, .int v_510405)] [] := by
    intro I_510399 J_510400 hU_510401 hF_510402 hG_510403 v_510404 rv_510404 v_510405 v_510406 rv_510406 q_510407 q_510408
    refine g_aload_n C 1 dX7_readOne_35 rfl rfl ?_
    refine g_iconst C (v := 4) dX7_readOne_36 (by decide) ?_
    refine g_callVI C K (c_X10_fail W9 hLa0 hka0 4 (rg_w rc_4 (by decide) (by decide)) hU_510401) hLa0 hka0 (by decide) rfl v_7_73 rfl ⟨rfl, rfl⟩ ⟨Nat.le_of_ble_eq_true rfl, Nat.le_of_ble_eq_true rfl⟩ (Nat.le_of_ble_eq_true rfl) ⟨Nat.le_of_ble_eq_true rfl, Nat.le_of_ble_eq_true rfl⟩ dX7_readOne_37 rfl (st := []) (fun x_510409 I_510410 J_510411 h_510412 => ?_)
    obtain ⟨hUI_510410, hFI_510410, hGJ_510411, rx_510409⟩ := h_510412
    have hF_510413 := fq_tr hF_510402 hFI_510410 (by decide)
    have hG_510414 := fq_tr hG_510403 hGJ_510411 (by decide)
    exact g_zret (ty := .boolean) (r := x_510409) B K rfl (nar_z (rg_w rx_510409 (by decide) (by decide))) ⟨hUI_510410, hF_510413, hG_510414, rg_w rx_510409 (by decide) (by decide)⟩ dX7_readOne_40
  refine g_aload_n C 1 dX7_readOne_0 rfl rfl ?_
  obtain ⟨x_510415, hx_510415, rx_510415⟩ := ex_get (I := I) (a := a0) (j := 8) (lo := (-2147483648)) (hi := 2147483647) hU.1 hLa0 (ro_o hka0 (by decide)) rfl
  refine g_getI C K hLa0 hka0 f_7_57 (v := x_510415) hx_510415 dX7_readOne_1 ?_
  refine g_istore C dX7_readOne_4 (by decide) (lo2 := [(4, .int x_510415), (0, .ref x), (1, .ref a0), (2, .ref a1), (3, .int a2)]) rfl ?_
  refine g_iload C 0 dX7_readOne_6 rfl ?_
  refine g_callSI C K (c_X7_beginsOne W9 x_510415  hU) s_7_70 rfl ⟨rfl, rfl⟩ ⟨Nat.le_of_ble_eq_true rfl, Nat.le_of_ble_eq_true rfl⟩ (Nat.le_of_ble_eq_true rfl) ⟨Nat.le_of_ble_eq_true rfl, Nat.le_of_ble_eq_true rfl⟩ dX7_readOne_8 rfl (st := []) (fun x_510416 I_510417 J_510418 h_510419 => ?_)
  obtain ⟨rfl, rfl, rx_510416⟩ := h_510419
  refine g_if_ne C (tgt := 20) dX7_readOne_11 (by decide) (fun h_510420 => ?_) (fun h_510420 => ?_)
  · skip
    have n_510421 : ¬ x_510416 = 0 := h_510420
    have r_510422 := ne_lo (lo := 1) n_510421 rx_510416 rc_0 rfl (by decide)
    refine g_aload_n C 1 dX7_readOne_20 rfl rfl ?_
    obtain ⟨x_510423, hx_510423, rx_510423⟩ := ex_get (I := I) (a := x) (j := 5) (lo := (-2147483648)) (hi := 2147483647) hU.1 hLx (ro_o hkx (by decide)) rfl
    refine g_getI C K hLx hkx f_7_28 (v := x_510423) hx_510423 dX7_readOne_21 ?_
    refine g_bipush C (v := 20) dX7_readOne_24 (by decide) ?_
    refine g_icmp_ge C (tgt := 35) dX7_readOne_26 (by decide) (fun h_510424 => ?_) (fun h_510424 => ?_)
    · skip
      have r_510425 := le_r (h_510424) rc_20 rx_510423
      refine g_lo (is := [1, 2, 3, 4, 0]) (lo2 := [(0, .ref x), (1, .ref a0), (2, .ref a1), (3, .int a2), (4, .int x_510415)]) rfl ?_
      exact j_35 I J hU hF hG a2 (ra2) x_510415 x_510423 (r_510425) hx_510415 hx_510423
    · skip
      have r_510426 := lt_l (hi := 19) (nle h_510424) rx_510423 rc_20 (by decide)
      refine g_iload_n C 4 dX7_readOne_29 rfl rfl ?_
      refine g_bipush C (v := 8) dX7_readOne_30 (by decide) ?_
      refine g_icmp_le C (tgt := 41) dX7_readOne_32 (by decide) (fun h_510427 => ?_) (fun h_510427 => ?_)
      · skip
        refine g_aload_n C 1 dX7_readOne_41 rfl rfl ?_
        refine g_dup C dX7_readOne_42 rfl ?_
        refine g_getI C K hLx hkx f_7_28 (v := x_510423) hx_510423 dX7_readOne_43 ?_
        refine g_iconst C (v := 1) dX7_readOne_46 (by decide) ?_
        obtain ⟨x_510428, hx_510428, rx_510428, tx_510428⟩ := ex_add (-2147483647) 20 r_510426 rc_1 (by decide) (by decide) (by decide) (by decide)
        refine g_iadd C (v := x_510428) dX7_readOne_47 hx_510428 ?_
        refine h_putI C K hLx hkx f_7_28 p_7_5 dX7_readOne_48 (fun I_510429 hI_510429 => ?_)
        have hU_510430 := iv_put W9 hU hI_510429 (ro_o hkx (by decide)) (lo := (-2147483648)) (hi := 2147483647) (rfl) (rg_all _) rfl
        have hF_510431 := fq_puto hF hI_510429 hkx (by decide) (by decide)
        refine g_aload_n C 2 dX7_readOne_51 rfl rfl ?_
        refine g_callVV C K (c_X10_advance W9 hLa0 hka0   hU_510430) hLa0 hka0 (by decide) rfl v_7_60 rfl ⟨rfl, rfl⟩ ⟨Nat.le_of_ble_eq_true rfl, Nat.le_of_ble_eq_true rfl⟩ (Nat.le_of_ble_eq_true rfl) ⟨Nat.le_of_ble_eq_true rfl, Nat.le_of_ble_eq_true rfl⟩ dX7_readOne_52 rfl (st := []) (fun I_510433 J_510434 h_510435 => ?_)
        obtain ⟨hUI_510433, hFI_510433, hGJ_510434⟩ := h_510435
        have hF_510436 := fq_tr hF_510431 hFI_510433 (by decide)
        have hG_510437 := fq_tr hG hGJ_510434 (by decide)
        refine g_iload C 0 dX7_readOne_55 rfl ?_
        refine g_bipush C (v := 40) dX7_readOne_57 (by decide) ?_
        refine g_icmp_ne C (tgt := 89) dX7_readOne_59 (by decide) (fun h_510438 => ?_) (fun h_510438 => ?_)
        · skip
          have n_510439 : ¬ x_510415 = 40 := h_510438
          refine g_iload C 0 dX7_readOne_89 rfl ?_
          refine g_bipush C (v := 19) dX7_readOne_91 (by decide) ?_
          refine g_icmp_ne C (tgt := 125) dX7_readOne_93 (by decide) (fun h_510440 => ?_) (fun h_510440 => ?_)
          · skip
            have n_510441 : ¬ x_510415 = 19 := h_510440
            refine g_aload_n C 1 dX7_readOne_125 rfl rfl ?_
            refine g_aload_n C 2 dX7_readOne_126 rfl rfl ?_
            refine g_aload_n C 3 dX7_readOne_127 rfl rfl ?_
            refine g_iload C 0 dX7_readOne_128 rfl ?_
            refine g_callVI C K (c_X7_readPlainOne W9 hLx hkx hLa0 hka0 hLa1 hka1 x_510415  hUI_510433) hLx hkx (by decide) rfl v_7_76 rfl ⟨rfl, rfl⟩ ⟨Nat.le_of_ble_eq_true rfl, Nat.le_of_ble_eq_true rfl⟩ (Nat.le_of_ble_eq_true rfl) ⟨Nat.le_of_ble_eq_true rfl, Nat.le_of_ble_eq_true rfl⟩ dX7_readOne_130 rfl (st := []) (fun x_510442 I_510443 J_510444 h_510445 => ?_)
            obtain ⟨hUI_510443, hFI_510443, hGJ_510444, rx_510442⟩ := h_510445
            have hF_510446 := fq_tr hF_510436 hFI_510443 (by decide)
            have hG_510447 := fq_tr hG_510437 hGJ_510444 (by decide)
            exact g_zret (ty := .boolean) (r := x_510442) B K rfl (nar_z (rx_510442)) ⟨hUI_510443, hF_510446, hG_510447, rx_510442⟩ dX7_readOne_133
          · skip
            have r_510448 := (⟨(eq_rg (h_510440) rc_19).1, (eq_rg (h_510440) rc_19).2⟩ : Rg 19 19 x_510415)
            refine g_aload_n C 1 dX7_readOne_96 rfl rfl ?_
            refine g_aload_n C 2 dX7_readOne_97 rfl rfl ?_
            refine g_aload_n C 3 dX7_readOne_98 rfl rfl ?_
            refine g_iload_n C 4 dX7_readOne_99 rfl rfl ?_
            refine g_iconst C (v := 1) dX7_readOne_100 (by decide) ?_
            obtain ⟨x_510449, hx_510449, rx_510449, tx_510449⟩ := ex_add 7 7 ra2 rc_1 (by decide) (by decide) (by decide) (by decide)
            refine g_iadd C (v := x_510449) dX7_readOne_101 hx_510449 ?_
            refine g_callVI C K (c_X7_readOne_7 W9 hLx hkx hLa0 hka0 hLa1 hka1 x_510449 (rx_510449) hUI_510433) hLx hkx (by decide) rfl v_7_67 rfl ⟨rfl, rfl⟩ ⟨Nat.le_of_ble_eq_true rfl, Nat.le_of_ble_eq_true rfl⟩ (Nat.le_of_ble_eq_true rfl) ⟨Nat.le_of_ble_eq_true rfl, Nat.le_of_ble_eq_true rfl⟩ dX7_readOne_102 rfl (st := []) (fun x_510450 I_510451 J_510452 h_510453 => ?_)
            obtain ⟨hUI_510451, hFI_510451, hGJ_510452, rx_510450⟩ := h_510453
            have hF_510454 := fq_tr hF_510436 hFI_510451 (by decide)
            have hG_510455 := fq_tr hG_510437 hGJ_510452 (by decide)
            refine g_if_eq C (tgt := 123) dX7_readOne_105 (by decide) (fun h_510456 => ?_) (fun h_510456 => ?_)
            · skip
              have r_510457 := (⟨(rx_510450).1, (eq_rg (h_510456) rc_0).2⟩ : Rg 0 0 x_510450)
              refine g_iconst C (v := 0) dX7_readOne_123 (by decide) ?_
              exact g_zret (ty := .boolean) (r := 0) B K rfl (rfl) ⟨hUI_510451, hF_510454, hG_510455, rg_w rc_0 (by decide) (by decide)⟩ dX7_readOne_124
            · skip
              have n_510458 : ¬ x_510450 = 0 := h_510456
              have r_510459 := ne_lo (lo := 1) n_510458 rx_510450 rc_0 rfl (by decide)
              refine g_aload_n C 1 dX7_readOne_108 rfl rfl ?_
              refine g_bipush C (v := 19) dX7_readOne_109 (by decide) ?_
              refine g_iconst C (v := 0) dX7_readOne_111 (by decide) ?_
              refine g_iconst C (v := 0) dX7_readOne_112 (by decide) ?_
              refine g_callVI C K (c_X7_addStep W9 hLx hkx 19 0 0 (rg_w rc_0 (by decide) (by decide)) hUI_510451  (fun q => absurd q (by decide))) hLx hkx (by decide) rfl v_7_63 rfl ⟨rfl, rfl⟩ ⟨Nat.le_of_ble_eq_true rfl, Nat.le_of_ble_eq_true rfl⟩ (Nat.le_of_ble_eq_true rfl) ⟨Nat.le_of_ble_eq_true rfl, Nat.le_of_ble_eq_true rfl⟩ dX7_readOne_113 rfl (st := []) (fun x_510460 I_510461 J_510462 h_510463 => ?_)
              obtain ⟨hUI_510461, hFI_510461, hGJ_510462, rx_510460⟩ := h_510463
              have hF_510464 := fq_tr hF_510454 hFI_510461 (by decide)
              have hG_510465 := fq_tr hG_510455 hGJ_510462 (by decide)
              refine g_if_eq C (tgt := 123) dX7_readOne_116 (by decide) (fun h_510466 => ?_) (fun h_510466 => ?_)
              · skip
                have r_510467 := (⟨(rx_510460).1, (eq_rg (h_510466) rc_0).2⟩ : Rg 0 0 x_510460)
                refine g_iconst C (v := 0) dX7_readOne_123 (by decide) ?_
                exact g_zret (ty := .boolean) (r := 0) B K rfl (rfl) ⟨hUI_510461, hF_510464, hG_510465, rg_w rc_0 (by decide) (by decide)⟩ dX7_readOne_124
              · skip
                have n_510468 : ¬ x_510460 = 0 := h_510466
                have r_510469 := ne_lo (lo := 1) n_510468 rx_510460 rc_0 rfl (by decide)
                refine g_iconst C (v := 1) dX7_readOne_119 (by decide) ?_
                refine g_goto C (tgt := 124) dX7_readOne_120 (by decide) ?_
                exact g_zret (ty := .boolean) (r := 1) B K rfl (rfl) ⟨hUI_510461, hF_510464, hG_510465, rg_w rc_1 (by decide) (by decide)⟩ dX7_readOne_124
        · skip
          have r_510470 := (⟨(eq_rg (h_510438) rc_40).1, (eq_rg (h_510438) rc_40).2⟩ : Rg 40 40 x_510415)
          refine g_aload_n C 1 dX7_readOne_62 rfl rfl ?_
          refine g_aload_n C 2 dX7_readOne_63 rfl rfl ?_
          refine g_aload_n C 3 dX7_readOne_64 rfl rfl ?_
          refine g_iload_n C 4 dX7_readOne_65 rfl rfl ?_
          refine g_iconst C (v := 1) dX7_readOne_66 (by decide) ?_
          obtain ⟨x_510471, hx_510471, rx_510471, tx_510471⟩ := ex_add 7 7 ra2 rc_1 (by decide) (by decide) (by decide) (by decide)
          refine g_iadd C (v := x_510471) dX7_readOne_67 hx_510471 ?_
          refine g_callVI C K (c_X7_readCond_7 W9 hLx hkx hLa0 hka0 hLa1 hka1 x_510471 (rx_510471) hUI_510433) hLx hkx (by decide) rfl v_7_46 rfl ⟨rfl, rfl⟩ ⟨Nat.le_of_ble_eq_true rfl, Nat.le_of_ble_eq_true rfl⟩ (Nat.le_of_ble_eq_true rfl) ⟨Nat.le_of_ble_eq_true rfl, Nat.le_of_ble_eq_true rfl⟩ dX7_readOne_68 rfl (st := []) (fun x_510472 I_510473 J_510474 h_510475 => ?_)
          obtain ⟨hUI_510473, hFI_510473, hGJ_510474, rx_510472⟩ := h_510475
          have hF_510476 := fq_tr hF_510436 hFI_510473 (by decide)
          have hG_510477 := fq_tr hG_510437 hGJ_510474 (by decide)
          refine g_if_eq C (tgt := 87) dX7_readOne_71 (by decide) (fun h_510478 => ?_) (fun h_510478 => ?_)
          · skip
            have r_510479 := (⟨(rx_510472).1, (eq_rg (h_510478) rc_0).2⟩ : Rg 0 0 x_510472)
            refine g_iconst C (v := 0) dX7_readOne_87 (by decide) ?_
            exact g_zret (ty := .boolean) (r := 0) B K rfl (rfl) ⟨hUI_510473, hF_510476, hG_510477, rg_w rc_0 (by decide) (by decide)⟩ dX7_readOne_88
          · skip
            have n_510480 : ¬ x_510472 = 0 := h_510478
            have r_510481 := ne_lo (lo := 1) n_510480 rx_510472 rc_0 rfl (by decide)
            refine g_aload_n C 2 dX7_readOne_74 rfl rfl ?_
            refine g_bipush C (v := 41) dX7_readOne_75 (by decide) ?_
            refine g_callVI C K (c_X10_take W9 hLa0 hka0 41 (rg_w rc_41 (by decide) (by decide)) hUI_510473) hLa0 hka0 (by decide) rfl v_7_50 rfl ⟨rfl, rfl⟩ ⟨Nat.le_of_ble_eq_true rfl, Nat.le_of_ble_eq_true rfl⟩ (Nat.le_of_ble_eq_true rfl) ⟨Nat.le_of_ble_eq_true rfl, Nat.le_of_ble_eq_true rfl⟩ dX7_readOne_77 rfl (st := []) (fun x_510482 I_510483 J_510484 h_510485 => ?_)
            obtain ⟨hUI_510483, hFI_510483, hGJ_510484, rx_510482⟩ := h_510485
            have hF_510486 := fq_tr hF_510476 hFI_510483 (by decide)
            have hG_510487 := fq_tr hG_510477 hGJ_510484 (by decide)
            refine g_if_eq C (tgt := 87) dX7_readOne_80 (by decide) (fun h_510488 => ?_) (fun h_510488 => ?_)
            · skip
              have r_510489 := (⟨(rx_510482).1, (eq_rg (h_510488) rc_0).2⟩ : Rg 0 0 x_510482)
              refine g_iconst C (v := 0) dX7_readOne_87 (by decide) ?_
              exact g_zret (ty := .boolean) (r := 0) B K rfl (rfl) ⟨hUI_510483, hF_510486, hG_510487, rg_w rc_0 (by decide) (by decide)⟩ dX7_readOne_88
            · skip
              have n_510490 : ¬ x_510482 = 0 := h_510488
              have r_510491 := ne_lo (lo := 1) n_510490 rx_510482 rc_0 rfl (by decide)
              refine g_iconst C (v := 1) dX7_readOne_83 (by decide) ?_
              refine g_goto C (tgt := 88) dX7_readOne_84 (by decide) ?_
              exact g_zret (ty := .boolean) (r := 1) B K rfl (rfl) ⟨hUI_510483, hF_510486, hG_510487, rg_w rc_1 (by decide) (by decide)⟩ dX7_readOne_88
      · skip
        have r_510492 := lt_r (lo := 9) (nle h_510427) rc_8 ra2 (by decide)
        exact rg_no r_510492 (by decide)
  · skip
    have r_510493 := (⟨(rx_510416).1, (eq_rg (h_510420) rc_0).2⟩ : Rg 0 0 x_510416)
    refine g_aload_n C 2 dX7_readOne_14 rfl rfl ?_
    refine g_iconst C (v := 1) dX7_readOne_15 (by decide) ?_
    refine g_callVI C K (c_X10_fail W9 hLa0 hka0 1 (rg_w rc_1 (by decide) (by decide)) hU) hLa0 hka0 (by decide) rfl v_7_73 rfl ⟨rfl, rfl⟩ ⟨Nat.le_of_ble_eq_true rfl, Nat.le_of_ble_eq_true rfl⟩ (Nat.le_of_ble_eq_true rfl) ⟨Nat.le_of_ble_eq_true rfl, Nat.le_of_ble_eq_true rfl⟩ dX7_readOne_16 rfl (st := []) (fun x_510494 I_510495 J_510496 h_510497 => ?_)
    obtain ⟨hUI_510495, hFI_510495, hGJ_510496, rx_510494⟩ := h_510497
    have hF_510498 := fq_tr hF hFI_510495 (by decide)
    have hG_510499 := fq_tr hG hGJ_510496 (by decide)
    exact g_zret (ty := .boolean) (r := x_510494) B K rfl (nar_z (rg_w rx_510494 (by decide) (by decide))) ⟨hUI_510495, hF_510498, hG_510499, rg_w rx_510494 (by decide) (by decide)⟩ dX7_readOne_19
set_option maxRecDepth 100000 in
set_option maxHeartbeats 8000000 in
theorem c_X7_readAll_6 {l : Launch} {D : va_G} {cy : Nat → ClassId} {L : List Nat} {κ ln : Nat → Nat} {R : Nat → Nat → Option Nat} {I : Nat → Nat → Int32} {J : Nat → Nat → Int64} {ow : Nat → Nat × Nat} (W9 : ∀ a ∈ L, Shp L κ ln R ow a) {x : Nat} (hLx : x ∈ L) (hkx : κ x = 7) {a0 : Nat} (hLa0 : a0 ∈ L) (hka0 : κ a0 = 10) {a1 : Nat} (hLa1 : a1 ∈ L) (hka1 : κ a1 = 8) (a2 : Int32) (ra2 : Rg 6 6 a2) (hU : Iv L κ R ow I) : CtI l yX7_readAll cX7_readAll 6 (some .boolean) { frames := 11, cells := 0, slots := 0, locals := 267 } D cy L κ ln R I J [.ref x, .ref a0, .ref a1, .int a2] (fun r I2 J2 => Iv L κ R ow I2 ∧ Fq L κ ow [704, 705, 1007, 1008, 1009, 1011, 1012, 52000, 52100, 52200] I I2 ∧ Fq L κ ow [1010] J J2 ∧ Rg 0 1 r) := by
  refine CtI.of (by decide +kernel) (Nat.le_of_ble_eq_true rfl) ?_
  intro p e s m below meth c B K
  have C := B.1
  have hF : Fq L κ ow [704, 705, 1007, 1008, 1009, 1011, 1012, 52000, 52100, 52200] I I := fq_rf
  have hG : Fq L κ ow [1010] J J := fq_rf
  refine g_lo (is := [0, 1, 2, 3]) (lo2 := [(0, .ref x), (1, .ref a0), (2, .ref a1), (3, .int a2)]) rfl ?_
  have l_12 : ∀ (n_12 : Nat) (I_511143 : Nat → Nat → Int32) (J_511144 : Nat → Nat → Int64) (hU_511145 : Iv L κ R ow I_511143) (hF_511146 : Fq L κ ow [704, 705, 1007, 1008, 1009, 1011, 1012, 52000, 52100, 52200] I I_511143) (hG_511147 : Fq L κ ow [1010] J J_511144) (v_511148 : Int32) (rv_511148 : Rg 6 6 v_511148) (v_511149 : Int32) (rv_511149 : Rg 0 1 v_511149) (v_511150 : Int32) (rv_511150 : Rg 0 20 v_511150) (hm_511151 : 20 < (v_511150 : Int32).toInt + (n_12 : Int)), WG p l e { frames := 11, cells := 0, slots := 0, locals := 267 } s m ([.ref x, .ref a0, .ref a1, .int a2] : List Value).toArray below meth c 6 0 0 (MQ below (Qi_ D cy L κ ln R (fun r I2 J2 => Iv L κ R ow I2 ∧ Fq L κ ow [704, 705, 1007, 1008, 1009, 1011, 1012, 52000, 52100, 52200] I I2 ∧ Fq L κ ow [1010] J J2 ∧ Rg 0 1 r)) ([.ref x, .ref a0, .ref a1, .int a2] : List Value).toArray s 0 0 (Al_ L)) D cy (Al_ L) s.heap L κ ln R I_511143 J_511144 12 [(0, .ref x), (1, .ref a0), (2, .ref a1), (3, .int v_511148), (4, .int v_511149), (5, .int v_511150)] [] := by
    intro n_12
    induction n_12 with
    | zero =>
      intro I_511143 J_511144 hU_511145 hF_511146 hG_511147 v_511148 rv_511148 v_511149 rv_511149 v_511150 rv_511150 hm_511151
      exact ms_0 rv_511150 hm_511151
    | succ n_12 ih_12 =>
      intro I_511143 J_511144 hU_511145 hF_511146 hG_511147 v_511148 rv_511148 v_511149 rv_511149 v_511150 rv_511150 hm_511151
      have j_62 : ∀ (I_511152 : Nat → Nat → Int32) (J_511153 : Nat → Nat → Int64) (hU_511154 : Iv L κ R ow I_511152) (hF_511155 : Fq L κ ow [704, 705, 1007, 1008, 1009, 1011, 1012, 52000, 52100, 52200] I I_511152) (hG_511156 : Fq L κ ow [1010] J J_511153) (v_511157 : Int32) (rv_511157 : Rg 6 6 v_511157) (v_511158 : Int32) (rv_511158 : Rg 1 1 v_511158) (nv_511158_0 : ¬ v_511158 = 0) (v_511159 : Int32) (rv_511159 : Rg 0 19 v_511159) (hm_511160 : 20 < (v_511159 : Int32).toInt + ((n_12 + 1 : Nat) : Int)), WG p l e { frames := 11, cells := 0, slots := 0, locals := 267 } s m ([.ref x, .ref a0, .ref a1, .int a2] : List Value).toArray below meth c 6 0 0 (MQ below (Qi_ D cy L κ ln R (fun r I2 J2 => Iv L κ R ow I2 ∧ Fq L κ ow [704, 705, 1007, 1008, 1009, 1011, 1012, 52000, 52100, 52200] I I2 ∧ Fq L κ ow [1010] J J2 ∧ Rg 0 1 r)) ([.ref x, .ref a0, .ref a1, .int a2] : List Value).toArray s 0 0 (Al_ L)) D cy (Al_ L) s.heap L κ ln R I_511152 J_511153 62 [(0, .ref x), (1, .ref a0), (2, .ref a1), (3, .int v_511157), (4, .int v_511158), (5, .int v_511159)] [] := by
        intro I_511152 J_511153 hU_511154 hF_511155 hG_511156 v_511157 rv_511157 v_511158 rv_511158 nv_511158_0 v_511159 rv_511159 hm_511160
        refine g_iconst C (v := 0) dX7_readAll_62 (by decide) ?_
        refine g_istore C dX7_readAll_63 (by decide) (lo2 := [(4, .int 0), (0, .ref x), (1, .ref a0), (2, .ref a1), (3, .int v_511157), (5, .int v_511159)]) rfl ?_
        obtain ⟨x_511161, hx_511161, rx_511161, tx_511161⟩ := ex_add (y := 1) 1 20 rv_511159 rc_1 (by decide) (by decide) (by decide) (by decide)
        refine g_iinc C dX7_readAll_65 (k := 5) (v := x_511161) rfl hx_511161 (by decide) (lo2 := [(5, .int x_511161), (4, .int 0), (0, .ref x), (1, .ref a0), (2, .ref a1), (3, .int v_511157)]) rfl ?_
        refine g_goto C (tgt := 12) dX7_readAll_68 (by decide) ?_
        refine g_lo (is := [2, 3, 4, 5, 1, 0]) (lo2 := [(0, .ref x), (1, .ref a0), (2, .ref a1), (3, .int v_511157), (4, .int 0), (5, .int x_511161)]) rfl ?_
        exact ih_12 I_511152 J_511153 hU_511154 hF_511155 hG_511156 v_511157 (rv_511157) 0 (rg_w rc_0 (by decide) (by decide)) x_511161 (rg_w rx_511161 (by decide) (by decide)) (ms_1 hm_511160 (ti_k tx_511161 rc_1) (by decide))
      refine g_iload C 5 dX7_readAll_12 rfl ?_
      refine g_bipush C (v := 20) dX7_readAll_14 (by decide) ?_
      refine g_icmp_ge C (tgt := 71) dX7_readAll_16 (by decide) (fun h_511162 => ?_) (fun h_511162 => ?_)
      · skip
        have r_511163 := le_r (h_511162) rc_20 rv_511150
        refine g_iload C 4 dX7_readAll_71 rfl ?_
        exact g_zret (ty := .boolean) (r := v_511149) B K rfl (nar_z (rv_511149)) ⟨hU_511145, hF_511146, hG_511147, rv_511149⟩ dX7_readAll_73
      · skip
        have r_511164 := lt_l (hi := 19) (nle h_511162) rv_511150 rc_20 (by decide)
        refine g_iload C 4 dX7_readAll_19 rfl ?_
        refine g_if_eq C (tgt := 71) dX7_readAll_21 (by decide) (fun h_511165 => ?_) (fun h_511165 => ?_)
        · skip
          have r_511166 := (⟨(rv_511149).1, (eq_rg (h_511165) rc_0).2⟩ : Rg 0 0 v_511149)
          refine g_iload C 4 dX7_readAll_71 rfl ?_
          exact g_zret (ty := .boolean) (r := v_511149) B K rfl (nar_z (rg_w r_511166 (by decide) (by decide))) ⟨hU_511145, hF_511146, hG_511147, rg_w r_511166 (by decide) (by decide)⟩ dX7_readAll_73
        · skip
          have n_511167 : ¬ v_511149 = 0 := h_511165
          have r_511168 := ne_lo (lo := 1) n_511167 rv_511149 rc_0 rfl (by decide)
          refine g_aload_n C 1 dX7_readAll_24 rfl rfl ?_
          obtain ⟨x_511169, hx_511169, rx_511169⟩ := ex_get (I := I_511143) (a := a0) (j := 8) (lo := (-2147483648)) (hi := 2147483647) hU_511145.1 hLa0 (ro_o hka0 (by decide)) rfl
          refine g_getI C K hLa0 hka0 f_7_57 (v := x_511169) hx_511169 dX7_readAll_25 ?_
          refine g_bipush C (v := 18) dX7_readAll_28 (by decide) ?_
          refine g_icmp_ne C (tgt := 71) dX7_readAll_30 (by decide) (fun h_511170 => ?_) (fun h_511170 => ?_)
          · skip
            have n_511171 : ¬ x_511169 = 18 := h_511170
            refine g_iload C 4 dX7_readAll_71 rfl ?_
            exact g_zret (ty := .boolean) (r := v_511149) B K rfl (nar_z (rg_w r_511168 (by decide) (by decide))) ⟨hU_511145, hF_511146, hG_511147, rg_w r_511168 (by decide) (by decide)⟩ dX7_readAll_73
          · skip
            have r_511172 := (⟨(eq_rg (h_511170) rc_18).1, (eq_rg (h_511170) rc_18).2⟩ : Rg 18 18 x_511169)
            refine g_aload_n C 1 dX7_readAll_33 rfl rfl ?_
            refine g_callVV C K (c_X10_advance W9 hLa0 hka0   hU_511145) hLa0 hka0 (by decide) rfl v_7_60 rfl ⟨rfl, rfl⟩ ⟨Nat.le_of_ble_eq_true rfl, Nat.le_of_ble_eq_true rfl⟩ (Nat.le_of_ble_eq_true rfl) ⟨Nat.le_of_ble_eq_true rfl, Nat.le_of_ble_eq_true rfl⟩ dX7_readAll_34 rfl (st := []) (fun I_511174 J_511175 h_511176 => ?_)
            obtain ⟨hUI_511174, hFI_511174, hGJ_511175⟩ := h_511176
            have hF_511177 := fq_tr hF_511146 hFI_511174 (by decide)
            have hG_511178 := fq_tr hG_511147 hGJ_511175 (by decide)
            refine g_aload_n C 0 dX7_readAll_37 rfl rfl ?_
            refine g_aload_n C 1 dX7_readAll_38 rfl rfl ?_
            refine g_aload_n C 2 dX7_readAll_39 rfl rfl ?_
            refine g_iload_n C 3 dX7_readAll_40 rfl rfl ?_
            refine g_callVI C K (c_X7_readOne_6 W9 hLx hkx hLa0 hka0 hLa1 hka1 v_511148 (rv_511148) hUI_511174) hLx hkx (by decide) rfl v_7_67 rfl ⟨rfl, rfl⟩ ⟨Nat.le_of_ble_eq_true rfl, Nat.le_of_ble_eq_true rfl⟩ (Nat.le_of_ble_eq_true rfl) ⟨Nat.le_of_ble_eq_true rfl, Nat.le_of_ble_eq_true rfl⟩ dX7_readAll_41 rfl (st := []) (fun x_511179 I_511180 J_511181 h_511182 => ?_)
            obtain ⟨hUI_511180, hFI_511180, hGJ_511181, rx_511179⟩ := h_511182
            have hF_511183 := fq_tr hF_511177 hFI_511180 (by decide)
            have hG_511184 := fq_tr hG_511178 hGJ_511181 (by decide)
            refine g_if_eq C (tgt := 62) dX7_readAll_44 (by decide) (fun h_511185 => ?_) (fun h_511185 => ?_)
            · skip
              have r_511186 := (⟨(rx_511179).1, (eq_rg (h_511185) rc_0).2⟩ : Rg 0 0 x_511179)
              refine g_lo (is := [0, 1, 2, 3, 4, 5]) (lo2 := [(0, .ref x), (1, .ref a0), (2, .ref a1), (3, .int v_511148), (4, .int v_511149), (5, .int v_511150)]) rfl ?_
              exact j_62 I_511180 J_511181 hUI_511180 hF_511183 hG_511184 v_511148 (rv_511148) v_511149 (r_511168) (n_511167) v_511150 (r_511164) hm_511151
            · skip
              have n_511187 : ¬ x_511179 = 0 := h_511185
              have r_511188 := ne_lo (lo := 1) n_511187 rx_511179 rc_0 rfl (by decide)
              refine g_aload_n C 0 dX7_readAll_47 rfl rfl ?_
              refine g_bipush C (v := 18) dX7_readAll_48 (by decide) ?_
              refine g_iconst C (v := 0) dX7_readAll_50 (by decide) ?_
              refine g_iconst C (v := 0) dX7_readAll_51 (by decide) ?_
              refine g_callVI C K (c_X7_addStep W9 hLx hkx 18 0 0 (rg_w rc_0 (by decide) (by decide)) hUI_511180  (fun q => absurd q (by decide))) hLx hkx (by decide) rfl v_7_63 rfl ⟨rfl, rfl⟩ ⟨Nat.le_of_ble_eq_true rfl, Nat.le_of_ble_eq_true rfl⟩ (Nat.le_of_ble_eq_true rfl) ⟨Nat.le_of_ble_eq_true rfl, Nat.le_of_ble_eq_true rfl⟩ dX7_readAll_52 rfl (st := []) (fun x_511189 I_511190 J_511191 h_511192 => ?_)
              obtain ⟨hUI_511190, hFI_511190, hGJ_511191, rx_511189⟩ := h_511192
              have hF_511193 := fq_tr hF_511183 hFI_511190 (by decide)
              have hG_511194 := fq_tr hG_511184 hGJ_511191 (by decide)
              refine g_if_eq C (tgt := 62) dX7_readAll_55 (by decide) (fun h_511195 => ?_) (fun h_511195 => ?_)
              · skip
                have r_511196 := (⟨(rx_511189).1, (eq_rg (h_511195) rc_0).2⟩ : Rg 0 0 x_511189)
                refine g_lo (is := [0, 1, 2, 3, 4, 5]) (lo2 := [(0, .ref x), (1, .ref a0), (2, .ref a1), (3, .int v_511148), (4, .int v_511149), (5, .int v_511150)]) rfl ?_
                exact j_62 I_511190 J_511191 hUI_511190 hF_511193 hG_511194 v_511148 (rv_511148) v_511149 (r_511168) (n_511167) v_511150 (r_511164) hm_511151
              · skip
                have n_511197 : ¬ x_511189 = 0 := h_511195
                have r_511198 := ne_lo (lo := 1) n_511197 rx_511189 rc_0 rfl (by decide)
                refine g_iconst C (v := 1) dX7_readAll_58 (by decide) ?_
                refine g_goto C (tgt := 63) dX7_readAll_59 (by decide) ?_
                refine g_istore C dX7_readAll_63 (by decide) (lo2 := [(4, .int 1), (0, .ref x), (1, .ref a0), (2, .ref a1), (3, .int v_511148), (5, .int v_511150)]) rfl ?_
                obtain ⟨x_511199, hx_511199, rx_511199, tx_511199⟩ := ex_add (y := 1) 1 20 r_511164 rc_1 (by decide) (by decide) (by decide) (by decide)
                refine g_iinc C dX7_readAll_65 (k := 5) (v := x_511199) rfl hx_511199 (by decide) (lo2 := [(5, .int x_511199), (4, .int 1), (0, .ref x), (1, .ref a0), (2, .ref a1), (3, .int v_511148)]) rfl ?_
                refine g_goto C (tgt := 12) dX7_readAll_68 (by decide) ?_
                refine g_lo (is := [2, 3, 4, 5, 1, 0]) (lo2 := [(0, .ref x), (1, .ref a0), (2, .ref a1), (3, .int v_511148), (4, .int 1), (5, .int x_511199)]) rfl ?_
                exact ih_12 I_511190 J_511191 hUI_511190 hF_511193 hG_511194 v_511148 (rv_511148) 1 (rg_w rc_1 (by decide) (by decide)) x_511199 (rg_w rx_511199 (by decide) (by decide)) (ms_1 hm_511151 (ti_k tx_511199 rc_1) (by decide))
  refine g_aload_n C 0 dX7_readAll_0 rfl rfl ?_
  refine g_aload_n C 1 dX7_readAll_1 rfl rfl ?_
  refine g_aload_n C 2 dX7_readAll_2 rfl rfl ?_
  refine g_iload_n C 3 dX7_readAll_3 rfl rfl ?_
  refine g_callVI C K (c_X7_readOne_6 W9 hLx hkx hLa0 hka0 hLa1 hka1 a2 (ra2) hU) hLx hkx (by decide) rfl v_7_67 rfl ⟨rfl, rfl⟩ ⟨Nat.le_of_ble_eq_true rfl, Nat.le_of_ble_eq_true rfl⟩ (Nat.le_of_ble_eq_true rfl) ⟨Nat.le_of_ble_eq_true rfl, Nat.le_of_ble_eq_true rfl⟩ dX7_readAll_4 rfl (st := []) (fun x_511200 I_511201 J_511202 h_511203 => ?_)
  obtain ⟨hUI_511201, hFI_511201, hGJ_511202, rx_511200⟩ := h_511203
  have hF_511204 := fq_tr hF hFI_511201 (by decide)
  have hG_511205 := fq_tr hG hGJ_511202 (by decide)
  refine g_istore C dX7_readAll_7 (by decide) (lo2 := [(4, .int x_511200), (0, .ref x), (1, .ref a0), (2, .ref a1), (3, .int a2)]) rfl ?_
  refine g_iconst C (v := 0) dX7_readAll_9 (by decide) ?_
  refine g_istore C dX7_readAll_10 (by decide) (lo2 := [(5, .int 0), (4, .int x_511200), (0, .ref x), (1, .ref a0), (2, .ref a1), (3, .int a2)]) rfl ?_
  refine g_lo (is := [2, 3, 4, 5, 1, 0]) (lo2 := [(0, .ref x), (1, .ref a0), (2, .ref a1), (3, .int a2), (4, .int x_511200), (5, .int 0)]) rfl ?_
  exact l_12 21 I_511201 J_511202 hUI_511201 hF_511204 hG_511205 a2 (ra2) x_511200 (rx_511200) 0 (rg_w rc_0 (by decide) (by decide)) (ms_s (a := 0) (b := 20) (N := 21) (rg_w rc_0 (by decide) (by decide)) (by decide))
set_option maxRecDepth 100000 in
set_option maxHeartbeats 8000000 in
theorem c_X7_readCond_6 {l : Launch} {D : va_G} {cy : Nat → ClassId} {L : List Nat} {κ ln : Nat → Nat} {R : Nat → Nat → Option Nat} {I : Nat → Nat → Int32} {J : Nat → Nat → Int64} {ow : Nat → Nat × Nat} (W9 : ∀ a ∈ L, Shp L κ ln R ow a) {x : Nat} (hLx : x ∈ L) (hkx : κ x = 7) {a0 : Nat} (hLa0 : a0 ∈ L) (hka0 : κ a0 = 10) {a1 : Nat} (hLa1 : a1 ∈ L) (hka1 : κ a1 = 8) (a2 : Int32) (ra2 : Rg 6 6 a2) (hU : Iv L κ R ow I) : CtI l yX7_readCond cX7_readCond 6 (some .boolean) { frames := 12, cells := 0, slots := 0, locals := 292 } D cy L κ ln R I J [.ref x, .ref a0, .ref a1, .int a2] (fun r I2 J2 => Iv L κ R ow I2 ∧ Fq L κ ow [704, 705, 1007, 1008, 1009, 1011, 1012, 52000, 52100, 52200] I I2 ∧ Fq L κ ow [1010] J J2 ∧ Rg 0 1 r) := by
  refine CtI.of (by decide +kernel) (Nat.le_of_ble_eq_true rfl) ?_
  intro p e s m below meth c B K
  have C := B.1
  have hF : Fq L κ ow [704, 705, 1007, 1008, 1009, 1011, 1012, 52000, 52100, 52200] I I := fq_rf
  have hG : Fq L κ ow [1010] J J := fq_rf
  refine g_lo (is := [0, 1, 2, 3]) (lo2 := [(0, .ref x), (1, .ref a0), (2, .ref a1), (3, .int a2)]) rfl ?_
  have l_12 : ∀ (n_12 : Nat) (I_511886 : Nat → Nat → Int32) (J_511887 : Nat → Nat → Int64) (hU_511888 : Iv L κ R ow I_511886) (hF_511889 : Fq L κ ow [704, 705, 1007, 1008, 1009, 1011, 1012, 52000, 52100, 52200] I I_511886) (hG_511890 : Fq L κ ow [1010] J J_511887) (v_511891 : Int32) (rv_511891 : Rg 6 6 v_511891) (v_511892 : Int32) (rv_511892 : Rg 0 1 v_511892) (v_511893 : Int32) (rv_511893 : Rg 0 20 v_511893) (hm_511894 : 20 < (v_511893 : Int32).toInt + (n_12 : Int)), WG p l e { frames := 12, cells := 0, slots := 0, locals := 292 } s m ([.ref x, .ref a0, .ref a1, .int a2] : List Value).toArray below meth c 6 0 0 (MQ below (Qi_ D cy L κ ln R (fun r I2 J2 => Iv L κ R ow I2 ∧ Fq L κ ow [704, 705, 1007, 1008, 1009, 1011, 1012, 52000, 52100, 52200] I I2 ∧ Fq L κ ow [1010] J J2 ∧ Rg 0 1 r)) ([.ref x, .ref a0, .ref a1, .int a2] : List Value).toArray s 0 0 (Al_ L)) D cy (Al_ L) s.heap L κ ln R I_511886 J_511887 12 [(0, .ref x), (1, .ref a0), (2, .ref a1), (3, .int v_511891), (4, .int v_511892), (5, .int v_511893)] [] := by
    intro n_12
    induction n_12 with
    | zero =>
      intro I_511886 J_511887 hU_511888 hF_511889 hG_511890 v_511891 rv_511891 v_511892 rv_511892 v_511893 rv_511893 hm_511894
      exact ms_0 rv_511893 hm_511894
    | succ n_12 ih_12 =>
      intro I_511886 J_511887 hU_511888 hF_511889 hG_511890 v_511891 rv_511891 v_511892 rv_511892 v_511893 rv_511893 hm_511894
      have j_62 : ∀ (I_511895 : Nat → Nat → Int32) (J_511896 : Nat → Nat → Int64) (hU_511897 : Iv L κ R ow I_511895) (hF_511898 : Fq L κ ow [704, 705, 1007, 1008, 1009, 1011, 1012, 52000, 52100, 52200] I I_511895) (hG_511899 : Fq L κ ow [1010] J J_511896) (v_511900 : Int32) (rv_511900 : Rg 6 6 v_511900) (v_511901 : Int32) (rv_511901 : Rg 1 1 v_511901) (nv_511901_0 : ¬ v_511901 = 0) (v_511902 : Int32) (rv_511902 : Rg 0 19 v_511902) (hm_511903 : 20 < (v_511902 : Int32).toInt + ((n_12 + 1 : Nat) : Int)), WG p l e { frames := 12, cells := 0, slots := 0, locals := 292 } s m ([.ref x, .ref a0, .ref a1, .int a2] : List Value).toArray below meth c 6 0 0 (MQ below (Qi_ D cy L κ ln R (fun r I2 J2 => Iv L κ R ow I2 ∧ Fq L κ ow [704, 705, 1007, 1008, 1009, 1011, 1012, 52000, 52100, 52200] I I2 ∧ Fq L κ ow [1010] J J2 ∧ Rg 0 1 r)) ([.ref x, .ref a0, .ref a1, .int a2] : List Value).toArray s 0 0 (Al_ L)) D cy (Al_ L) s.heap L κ ln R I_511895 J_511896 62 [(0, .ref x), (1, .ref a0), (2, .ref a1), (3, .int v_511900), (4, .int v_511901), (5, .int v_511902)] [] := by
        intro I_511895 J_511896 hU_511897 hF_511898 hG_511899 v_511900 rv_511900 v_511901 rv_511901 nv_511901_0 v_511902 rv_511902 hm_511903
        refine g_iconst C (v := 0) dX7_readCond_62 (by decide) ?_
        refine g_istore C dX7_readCond_63 (by decide) (lo2 := [(4, .int 0), (0, .ref x), (1, .ref a0), (2, .ref a1), (3, .int v_511900), (5, .int v_511902)]) rfl ?_
        obtain ⟨x_511904, hx_511904, rx_511904, tx_511904⟩ := ex_add (y := 1) 1 20 rv_511902 rc_1 (by decide) (by decide) (by decide) (by decide)
        refine g_iinc C dX7_readCond_65 (k := 5) (v := x_511904) rfl hx_511904 (by decide) (lo2 := [(5, .int x_511904), (4, .int 0), (0, .ref x), (1, .ref a0), (2, .ref a1), (3, .int v_511900)]) rfl ?_
        refine g_goto C (tgt := 12) dX7_readCond_68 (by decide) ?_
        refine g_lo (is := [2, 3, 4, 5, 1, 0]) (lo2 := [(0, .ref x), (1, .ref a0), (2, .ref a1), (3, .int v_511900), (4, .int 0), (5, .int x_511904)]) rfl ?_
        exact ih_12 I_511895 J_511896 hU_511897 hF_511898 hG_511899 v_511900 (rv_511900) 0 (rg_w rc_0 (by decide) (by decide)) x_511904 (rg_w rx_511904 (by decide) (by decide)) (ms_1 hm_511903 (ti_k tx_511904 rc_1) (by decide))
      refine g_iload C 5 dX7_readCond_12 rfl ?_
      refine g_bipush C (v := 20) dX7_readCond_14 (by decide) ?_
      refine g_icmp_ge C (tgt := 71) dX7_readCond_16 (by decide) (fun h_511905 => ?_) (fun h_511905 => ?_)
      · skip
        have r_511906 := le_r (h_511905) rc_20 rv_511893
        refine g_iload C 4 dX7_readCond_71 rfl ?_
        exact g_zret (ty := .boolean) (r := v_511892) B K rfl (nar_z (rv_511892)) ⟨hU_511888, hF_511889, hG_511890, rv_511892⟩ dX7_readCond_73
      · skip
        have r_511907 := lt_l (hi := 19) (nle h_511905) rv_511893 rc_20 (by decide)
        refine g_iload C 4 dX7_readCond_19 rfl ?_
        refine g_if_eq C (tgt := 71) dX7_readCond_21 (by decide) (fun h_511908 => ?_) (fun h_511908 => ?_)
        · skip
          have r_511909 := (⟨(rv_511892).1, (eq_rg (h_511908) rc_0).2⟩ : Rg 0 0 v_511892)
          refine g_iload C 4 dX7_readCond_71 rfl ?_
          exact g_zret (ty := .boolean) (r := v_511892) B K rfl (nar_z (rg_w r_511909 (by decide) (by decide))) ⟨hU_511888, hF_511889, hG_511890, rg_w r_511909 (by decide) (by decide)⟩ dX7_readCond_73
        · skip
          have n_511910 : ¬ v_511892 = 0 := h_511908
          have r_511911 := ne_lo (lo := 1) n_511910 rv_511892 rc_0 rfl (by decide)
          refine g_aload_n C 1 dX7_readCond_24 rfl rfl ?_
          obtain ⟨x_511912, hx_511912, rx_511912⟩ := ex_get (I := I_511886) (a := a0) (j := 8) (lo := (-2147483648)) (hi := 2147483647) hU_511888.1 hLa0 (ro_o hka0 (by decide)) rfl
          refine g_getI C K hLa0 hka0 f_7_57 (v := x_511912) hx_511912 dX7_readCond_25 ?_
          refine g_bipush C (v := 17) dX7_readCond_28 (by decide) ?_
          refine g_icmp_ne C (tgt := 71) dX7_readCond_30 (by decide) (fun h_511913 => ?_) (fun h_511913 => ?_)
          · skip
            have n_511914 : ¬ x_511912 = 17 := h_511913
            refine g_iload C 4 dX7_readCond_71 rfl ?_
            exact g_zret (ty := .boolean) (r := v_511892) B K rfl (nar_z (rg_w r_511911 (by decide) (by decide))) ⟨hU_511888, hF_511889, hG_511890, rg_w r_511911 (by decide) (by decide)⟩ dX7_readCond_73
          · skip
            have r_511915 := (⟨(eq_rg (h_511913) rc_17).1, (eq_rg (h_511913) rc_17).2⟩ : Rg 17 17 x_511912)
            refine g_aload_n C 1 dX7_readCond_33 rfl rfl ?_
            refine g_callVV C K (c_X10_advance W9 hLa0 hka0   hU_511888) hLa0 hka0 (by decide) rfl v_7_60 rfl ⟨rfl, rfl⟩ ⟨Nat.le_of_ble_eq_true rfl, Nat.le_of_ble_eq_true rfl⟩ (Nat.le_of_ble_eq_true rfl) ⟨Nat.le_of_ble_eq_true rfl, Nat.le_of_ble_eq_true rfl⟩ dX7_readCond_34 rfl (st := []) (fun I_511917 J_511918 h_511919 => ?_)
            obtain ⟨hUI_511917, hFI_511917, hGJ_511918⟩ := h_511919
            have hF_511920 := fq_tr hF_511889 hFI_511917 (by decide)
            have hG_511921 := fq_tr hG_511890 hGJ_511918 (by decide)
            refine g_aload_n C 0 dX7_readCond_37 rfl rfl ?_
            refine g_aload_n C 1 dX7_readCond_38 rfl rfl ?_
            refine g_aload_n C 2 dX7_readCond_39 rfl rfl ?_
            refine g_iload_n C 3 dX7_readCond_40 rfl rfl ?_
            refine g_callVI C K (c_X7_readAll_6 W9 hLx hkx hLa0 hka0 hLa1 hka1 v_511891 (rv_511891) hUI_511917) hLx hkx (by decide) rfl v_7_54 rfl ⟨rfl, rfl⟩ ⟨Nat.le_of_ble_eq_true rfl, Nat.le_of_ble_eq_true rfl⟩ (Nat.le_of_ble_eq_true rfl) ⟨Nat.le_of_ble_eq_true rfl, Nat.le_of_ble_eq_true rfl⟩ dX7_readCond_41 rfl (st := []) (fun x_511922 I_511923 J_511924 h_511925 => ?_)
            obtain ⟨hUI_511923, hFI_511923, hGJ_511924, rx_511922⟩ := h_511925
            have hF_511926 := fq_tr hF_511920 hFI_511923 (by decide)
            have hG_511927 := fq_tr hG_511921 hGJ_511924 (by decide)
            refine g_if_eq C (tgt := 62) dX7_readCond_44 (by decide) (fun h_511928 => ?_) (fun h_511928 => ?_)
            · skip
              have r_511929 := (⟨(rx_511922).1, (eq_rg (h_511928) rc_0).2⟩ : Rg 0 0 x_511922)
              refine g_lo (is := [0, 1, 2, 3, 4, 5]) (lo2 := [(0, .ref x), (1, .ref a0), (2, .ref a1), (3, .int v_511891), (4, .int v_511892), (5, .int v_511893)]) rfl ?_
              exact j_62 I_511923 J_511924 hUI_511923 hF_511926 hG_511927 v_511891 (rv_511891) v_511892 (r_511911) (n_511910) v_511893 (r_511907) hm_511894
            · skip
              have n_511930 : ¬ x_511922 = 0 := h_511928
              have r_511931 := ne_lo (lo := 1) n_511930 rx_511922 rc_0 rfl (by decide)
              refine g_aload_n C 0 dX7_readCond_47 rfl rfl ?_
              refine g_bipush C (v := 17) dX7_readCond_48 (by decide) ?_
              refine g_iconst C (v := 0) dX7_readCond_50 (by decide) ?_
              refine g_iconst C (v := 0) dX7_readCond_51 (by decide) ?_
              refine g_callVI C K (c_X7_addStep W9 hLx hkx 17 0 0 (rg_w rc_0 (by decide) (by decide)) hUI_511923  (fun q => absurd q (by decide))) hLx hkx (by decide) rfl v_7_63 rfl ⟨rfl, rfl⟩ ⟨Nat.le_of_ble_eq_true rfl, Nat.le_of_ble_eq_true rfl⟩ (Nat.le_of_ble_eq_true rfl) ⟨Nat.le_of_ble_eq_true rfl, Nat.le_of_ble_eq_true rfl⟩ dX7_readCond_52 rfl (st := []) (fun x_511932 I_511933 J_511934 h_511935 => ?_)
              obtain ⟨hUI_511933, hFI_511933, hGJ_511934, rx_511932⟩ := h_511935
              have hF_511936 := fq_tr hF_511926 hFI_511933 (by decide)
              have hG_511937 := fq_tr hG_511927 hGJ_511934 (by decide)
              refine g_if_eq C (tgt := 62) dX7_readCond_55 (by decide) (fun h_511938 => ?_) (fun h_511938 => ?_)
              · skip
                have r_511939 := (⟨(rx_511932).1, (eq_rg (h_511938) rc_0).2⟩ : Rg 0 0 x_511932)
                refine g_lo (is := [0, 1, 2, 3, 4, 5]) (lo2 := [(0, .ref x), (1, .ref a0), (2, .ref a1), (3, .int v_511891), (4, .int v_511892), (5, .int v_511893)]) rfl ?_
                exact j_62 I_511933 J_511934 hUI_511933 hF_511936 hG_511937 v_511891 (rv_511891) v_511892 (r_511911) (n_511910) v_511893 (r_511907) hm_511894
              · skip
                have n_511940 : ¬ x_511932 = 0 := h_511938
                have r_511941 := ne_lo (lo := 1) n_511940 rx_511932 rc_0 rfl (by decide)
                refine g_iconst C (v := 1) dX7_readCond_58 (by decide) ?_
                refine g_goto C (tgt := 63) dX7_readCond_59 (by decide) ?_
                refine g_istore C dX7_readCond_63 (by decide) (lo2 := [(4, .int 1), (0, .ref x), (1, .ref a0), (2, .ref a1), (3, .int v_511891), (5, .int v_511893)]) rfl ?_
                obtain ⟨x_511942, hx_511942, rx_511942, tx_511942⟩ := ex_add (y := 1) 1 20 r_511907 rc_1 (by decide) (by decide) (by decide) (by decide)
                refine g_iinc C dX7_readCond_65 (k := 5) (v := x_511942) rfl hx_511942 (by decide) (lo2 := [(5, .int x_511942), (4, .int 1), (0, .ref x), (1, .ref a0), (2, .ref a1), (3, .int v_511891)]) rfl ?_
                refine g_goto C (tgt := 12) dX7_readCond_68 (by decide) ?_
                refine g_lo (is := [2, 3, 4, 5, 1, 0]) (lo2 := [(0, .ref x), (1, .ref a0), (2, .ref a1), (3, .int v_511891), (4, .int 1), (5, .int x_511942)]) rfl ?_
                exact ih_12 I_511933 J_511934 hUI_511933 hF_511936 hG_511937 v_511891 (rv_511891) 1 (rg_w rc_1 (by decide) (by decide)) x_511942 (rg_w rx_511942 (by decide) (by decide)) (ms_1 hm_511894 (ti_k tx_511942 rc_1) (by decide))
  refine g_aload_n C 0 dX7_readCond_0 rfl rfl ?_
  refine g_aload_n C 1 dX7_readCond_1 rfl rfl ?_
  refine g_aload_n C 2 dX7_readCond_2 rfl rfl ?_
  refine g_iload_n C 3 dX7_readCond_3 rfl rfl ?_
  refine g_callVI C K (c_X7_readAll_6 W9 hLx hkx hLa0 hka0 hLa1 hka1 a2 (ra2) hU) hLx hkx (by decide) rfl v_7_54 rfl ⟨rfl, rfl⟩ ⟨Nat.le_of_ble_eq_true rfl, Nat.le_of_ble_eq_true rfl⟩ (Nat.le_of_ble_eq_true rfl) ⟨Nat.le_of_ble_eq_true rfl, Nat.le_of_ble_eq_true rfl⟩ dX7_readCond_4 rfl (st := []) (fun x_511943 I_511944 J_511945 h_511946 => ?_)
  obtain ⟨hUI_511944, hFI_511944, hGJ_511945, rx_511943⟩ := h_511946
  have hF_511947 := fq_tr hF hFI_511944 (by decide)
  have hG_511948 := fq_tr hG hGJ_511945 (by decide)
  refine g_istore C dX7_readCond_7 (by decide) (lo2 := [(4, .int x_511943), (0, .ref x), (1, .ref a0), (2, .ref a1), (3, .int a2)]) rfl ?_
  refine g_iconst C (v := 0) dX7_readCond_9 (by decide) ?_
  refine g_istore C dX7_readCond_10 (by decide) (lo2 := [(5, .int 0), (4, .int x_511943), (0, .ref x), (1, .ref a0), (2, .ref a1), (3, .int a2)]) rfl ?_
  refine g_lo (is := [2, 3, 4, 5, 1, 0]) (lo2 := [(0, .ref x), (1, .ref a0), (2, .ref a1), (3, .int a2), (4, .int x_511943), (5, .int 0)]) rfl ?_
  exact l_12 21 I_511944 J_511945 hUI_511944 hF_511947 hG_511948 a2 (ra2) x_511943 (rx_511943) 0 (rg_w rc_0 (by decide) (by decide)) (ms_s (a := 0) (b := 20) (N := 21) (rg_w rc_0 (by decide) (by decide)) (by decide))
set_option maxRecDepth 100000 in
set_option maxHeartbeats 8000000 in
theorem c_X7_readOne_5 {l : Launch} {D : va_G} {cy : Nat → ClassId} {L : List Nat} {κ ln : Nat → Nat} {R : Nat → Nat → Option Nat} {I : Nat → Nat → Int32} {J : Nat → Nat → Int64} {ow : Nat → Nat × Nat} (W9 : ∀ a ∈ L, Shp L κ ln R ow a) {x : Nat} (hLx : x ∈ L) (hkx : κ x = 7) {a0 : Nat} (hLa0 : a0 ∈ L) (hka0 : κ a0 = 10) {a1 : Nat} (hLa1 : a1 ∈ L) (hka1 : κ a1 = 8) (a2 : Int32) (ra2 : Rg 5 5 a2) (hU : Iv L κ R ow I) : CtI l yX7_readOne cX7_readOne 5 (some .boolean) { frames := 13, cells := 0, slots := 0, locals := 317 } D cy L κ ln R I J [.ref x, .ref a0, .ref a1, .int a2] (fun r I2 J2 => Iv L κ R ow I2 ∧ Fq L κ ow [704, 705, 1007, 1008, 1009, 1011, 1012, 52000, 52100, 52200] I I2 ∧ Fq L κ ow [1010] J J2 ∧ Rg 0 1 r) := by
  refine CtI.of (by decide +kernel) (Nat.le_of_ble_eq_true rfl) ?_
  intro p e s m below meth c B K
  have C := B.1
  have hF : Fq L κ ow [704, 705, 1007, 1008, 1009, 1011, 1012, 52000, 52100, 52200] I I := fq_rf
  have hG : Fq L κ ow [1010] J J := fq_rf
  refine g_lo (is := [0, 1, 2, 3]) (lo2 := [(0, .ref x), (1, .ref a0), (2, .ref a1), (3, .int a2)]) rfl ?_
  have j_35 : ∀ (I_512131 : Nat → Nat → Int32) (J_512132 : Nat → Nat → Int64) (hU_512133 : Iv L κ R ow I_512131) (hF_512134 : Fq L κ ow [704, 705, 1007, 1008, 1009, 1011, 1012, 52000, 52100, 52200] I I_512131) (hG_512135 : Fq L κ ow [1010] J J_512132) (v_512136 : Int32) (rv_512136 : Rg 5 5 v_512136) (v_512137 : Int32) (v_512138 : Int32) (rv_512138 : Rg 20 2147483647 v_512138) (q_512139 : I_512131 a0 8 = v_512137) (q_512140 : I_512131 x 5 = v_512138), WG p l e { frames := 13, cells := 0, slots := 0, locals := 317 } s m ([.ref x, .ref a0, .ref a1, .int a2] : List Value).toArray below meth c 5 0 0 (MQ below (Qi_ D cy L κ ln R (fun r I2 J2 => Iv L κ R ow I2 ∧ Fq L κ ow [704, 705, 1007, 1008, 1009, 1011, 1012, 52000, 52100, 52200] I I2 ∧ Fq L κ ow [1010] J J2 ∧ Rg 0 1 r)) ([.ref x, .ref a0, .ref a1, .int a2] : List Value).toArray s 0 0 (Al_ L)) D cy (Al_ L) s.heap L κ ln R I_512131 J_512132 35 [(0, .ref x), (1, .ref a0), (2, .ref a1), (3, .int v_512136), (4, .int v_512137)] [] := by
    intro I_512131 J_512132 hU_512133 hF_512134 hG_512135 v_512136 rv_512136 v_512137 v_512138 rv_512138 q_512139 q_512140
    refine g_aload_n C 1 dX7_readOne_35 rfl rfl ?_
    refine g_iconst C (v := 4) dX7_readOne_36 (by decide) ?_
    refine g_callVI C K (c_X10_fail W9 hLa0 hka0 4 (rg_w rc_4 (by decide) (by decide)) hU_512133) hLa0 hka0 (by decide) rfl v_7_73 rfl ⟨rfl, rfl⟩ ⟨Nat.le_of_ble_eq_true rfl, Nat.le_of_ble_eq_true rfl⟩ (Nat.le_of_ble_eq_true rfl) ⟨Nat.le_of_ble_eq_true rfl, Nat.le_of_ble_eq_true rfl⟩ dX7_readOne_37 rfl (st := []) (fun x_512141 I_512142 J_512143 h_512144 => ?_)
    obtain ⟨hUI_512142, hFI_512142, hGJ_512143, rx_512141⟩ := h_512144
    have hF_512145 := fq_tr hF_512134 hFI_512142 (by decide)
    have hG_512146 := fq_tr hG_512135 hGJ_512143 (by decide)
    exact g_zret (ty := .boolean) (r := x_512141) B K rfl (nar_z (rg_w rx_512141 (by decide) (by decide))) ⟨hUI_512142, hF_512145, hG_512146, rg_w rx_512141 (by decide) (by decide)⟩ dX7_readOne_40
  refine g_aload_n C 1 dX7_readOne_0 rfl rfl ?_
  obtain ⟨x_512147, hx_512147, rx_512147⟩ := ex_get (I := I) (a := a0) (j := 8) (lo := (-2147483648)) (hi := 2147483647) hU.1 hLa0 (ro_o hka0 (by decide)) rfl
  refine g_getI C K hLa0 hka0 f_7_57 (v := x_512147) hx_512147 dX7_readOne_1 ?_
  refine g_istore C dX7_readOne_4 (by decide) (lo2 := [(4, .int x_512147), (0, .ref x), (1, .ref a0), (2, .ref a1), (3, .int a2)]) rfl ?_
  refine g_iload C 0 dX7_readOne_6 rfl ?_
  refine g_callSI C K (c_X7_beginsOne W9 x_512147  hU) s_7_70 rfl ⟨rfl, rfl⟩ ⟨Nat.le_of_ble_eq_true rfl, Nat.le_of_ble_eq_true rfl⟩ (Nat.le_of_ble_eq_true rfl) ⟨Nat.le_of_ble_eq_true rfl, Nat.le_of_ble_eq_true rfl⟩ dX7_readOne_8 rfl (st := []) (fun x_512148 I_512149 J_512150 h_512151 => ?_)
  obtain ⟨rfl, rfl, rx_512148⟩ := h_512151
  refine g_if_ne C (tgt := 20) dX7_readOne_11 (by decide) (fun h_512152 => ?_) (fun h_512152 => ?_)
  · skip
    have n_512153 : ¬ x_512148 = 0 := h_512152
    have r_512154 := ne_lo (lo := 1) n_512153 rx_512148 rc_0 rfl (by decide)
    refine g_aload_n C 1 dX7_readOne_20 rfl rfl ?_
    obtain ⟨x_512155, hx_512155, rx_512155⟩ := ex_get (I := I) (a := x) (j := 5) (lo := (-2147483648)) (hi := 2147483647) hU.1 hLx (ro_o hkx (by decide)) rfl
    refine g_getI C K hLx hkx f_7_28 (v := x_512155) hx_512155 dX7_readOne_21 ?_
    refine g_bipush C (v := 20) dX7_readOne_24 (by decide) ?_
    refine g_icmp_ge C (tgt := 35) dX7_readOne_26 (by decide) (fun h_512156 => ?_) (fun h_512156 => ?_)
    · skip
      have r_512157 := le_r (h_512156) rc_20 rx_512155
      refine g_lo (is := [1, 2, 3, 4, 0]) (lo2 := [(0, .ref x), (1, .ref a0), (2, .ref a1), (3, .int a2), (4, .int x_512147)]) rfl ?_
      exact j_35 I J hU hF hG a2 (ra2) x_512147 x_512155 (r_512157) hx_512147 hx_512155
    · skip
      have r_512158 := lt_l (hi := 19) (nle h_512156) rx_512155 rc_20 (by decide)
      refine g_iload_n C 4 dX7_readOne_29 rfl rfl ?_
      refine g_bipush C (v := 8) dX7_readOne_30 (by decide) ?_
      refine g_icmp_le C (tgt := 41) dX7_readOne_32 (by decide) (fun h_512159 => ?_) (fun h_512159 => ?_)
      · skip
        refine g_aload_n C 1 dX7_readOne_41 rfl rfl ?_
        refine g_dup C dX7_readOne_42 rfl ?_
        refine g_getI C K hLx hkx f_7_28 (v := x_512155) hx_512155 dX7_readOne_43 ?_
        refine g_iconst C (v := 1) dX7_readOne_46 (by decide) ?_
        obtain ⟨x_512160, hx_512160, rx_512160, tx_512160⟩ := ex_add (-2147483647) 20 r_512158 rc_1 (by decide) (by decide) (by decide) (by decide)
        refine g_iadd C (v := x_512160) dX7_readOne_47 hx_512160 ?_
        refine h_putI C K hLx hkx f_7_28 p_7_5 dX7_readOne_48 (fun I_512161 hI_512161 => ?_)
        have hU_512162 := iv_put W9 hU hI_512161 (ro_o hkx (by decide)) (lo := (-2147483648)) (hi := 2147483647) (rfl) (rg_all _) rfl
        have hF_512163 := fq_puto hF hI_512161 hkx (by decide) (by decide)
        refine g_aload_n C 2 dX7_readOne_51 rfl rfl ?_
        refine g_callVV C K (c_X10_advance W9 hLa0 hka0   hU_512162) hLa0 hka0 (by decide) rfl v_7_60 rfl ⟨rfl, rfl⟩ ⟨Nat.le_of_ble_eq_true rfl, Nat.le_of_ble_eq_true rfl⟩ (Nat.le_of_ble_eq_true rfl) ⟨Nat.le_of_ble_eq_true rfl, Nat.le_of_ble_eq_true rfl⟩ dX7_readOne_52 rfl (st := []) (fun I_512165 J_512166 h_512167 => ?_)
        obtain ⟨hUI_512165, hFI_512165, hGJ_512166⟩ := h_512167
        have hF_512168 := fq_tr hF_512163 hFI_512165 (by decide)
        have hG_512169 := fq_tr hG hGJ_512166 (by decide)
        refine g_iload C 0 dX7_readOne_55 rfl ?_
        refine g_bipush C (v := 40) dX7_readOne_57 (by decide) ?_
        refine g_icmp_ne C (tgt := 89) dX7_readOne_59 (by decide) (fun h_512170 => ?_) (fun h_512170 => ?_)
        · skip
          have n_512171 : ¬ x_512147 = 40 := h_512170
          refine g_iload C 0 dX7_readOne_89 rfl ?_
          refine g_bipush C (v := 19) dX7_readOne_91 (by decide) ?_
          refine g_icmp_ne C (tgt := 125) dX7_readOne_93 (by decide) (fun h_512172 => ?_) (fun h_512172 => ?_)
          · skip
            have n_512173 : ¬ x_512147 = 19 := h_512172
            refine g_aload_n C 1 dX7_readOne_125 rfl rfl ?_
            refine g_aload_n C 2 dX7_readOne_126 rfl rfl ?_
            refine g_aload_n C 3 dX7_readOne_127 rfl rfl ?_
            refine g_iload C 0 dX7_readOne_128 rfl ?_
            refine g_callVI C K (c_X7_readPlainOne W9 hLx hkx hLa0 hka0 hLa1 hka1 x_512147  hUI_512165) hLx hkx (by decide) rfl v_7_76 rfl ⟨rfl, rfl⟩ ⟨Nat.le_of_ble_eq_true rfl, Nat.le_of_ble_eq_true rfl⟩ (Nat.le_of_ble_eq_true rfl) ⟨Nat.le_of_ble_eq_true rfl, Nat.le_of_ble_eq_true rfl⟩ dX7_readOne_130 rfl (st := []) (fun x_512174 I_512175 J_512176 h_512177 => ?_)
            obtain ⟨hUI_512175, hFI_512175, hGJ_512176, rx_512174⟩ := h_512177
            have hF_512178 := fq_tr hF_512168 hFI_512175 (by decide)
            have hG_512179 := fq_tr hG_512169 hGJ_512176 (by decide)
            exact g_zret (ty := .boolean) (r := x_512174) B K rfl (nar_z (rx_512174)) ⟨hUI_512175, hF_512178, hG_512179, rx_512174⟩ dX7_readOne_133
          · skip
            have r_512180 := (⟨(eq_rg (h_512172) rc_19).1, (eq_rg (h_512172) rc_19).2⟩ : Rg 19 19 x_512147)
            refine g_aload_n C 1 dX7_readOne_96 rfl rfl ?_
            refine g_aload_n C 2 dX7_readOne_97 rfl rfl ?_
            refine g_aload_n C 3 dX7_readOne_98 rfl rfl ?_
            refine g_iload_n C 4 dX7_readOne_99 rfl rfl ?_
            refine g_iconst C (v := 1) dX7_readOne_100 (by decide) ?_
            obtain ⟨x_512181, hx_512181, rx_512181, tx_512181⟩ := ex_add 6 6 ra2 rc_1 (by decide) (by decide) (by decide) (by decide)
            refine g_iadd C (v := x_512181) dX7_readOne_101 hx_512181 ?_
            refine g_callVI C K (c_X7_readOne_6 W9 hLx hkx hLa0 hka0 hLa1 hka1 x_512181 (rx_512181) hUI_512165) hLx hkx (by decide) rfl v_7_67 rfl ⟨rfl, rfl⟩ ⟨Nat.le_of_ble_eq_true rfl, Nat.le_of_ble_eq_true rfl⟩ (Nat.le_of_ble_eq_true rfl) ⟨Nat.le_of_ble_eq_true rfl, Nat.le_of_ble_eq_true rfl⟩ dX7_readOne_102 rfl (st := []) (fun x_512182 I_512183 J_512184 h_512185 => ?_)
            obtain ⟨hUI_512183, hFI_512183, hGJ_512184, rx_512182⟩ := h_512185
            have hF_512186 := fq_tr hF_512168 hFI_512183 (by decide)
            have hG_512187 := fq_tr hG_512169 hGJ_512184 (by decide)
            refine g_if_eq C (tgt := 123) dX7_readOne_105 (by decide) (fun h_512188 => ?_) (fun h_512188 => ?_)
            · skip
              have r_512189 := (⟨(rx_512182).1, (eq_rg (h_512188) rc_0).2⟩ : Rg 0 0 x_512182)
              refine g_iconst C (v := 0) dX7_readOne_123 (by decide) ?_
              exact g_zret (ty := .boolean) (r := 0) B K rfl (rfl) ⟨hUI_512183, hF_512186, hG_512187, rg_w rc_0 (by decide) (by decide)⟩ dX7_readOne_124
            · skip
              have n_512190 : ¬ x_512182 = 0 := h_512188
              have r_512191 := ne_lo (lo := 1) n_512190 rx_512182 rc_0 rfl (by decide)
              refine g_aload_n C 1 dX7_readOne_108 rfl rfl ?_
              refine g_bipush C (v := 19) dX7_readOne_109 (by decide) ?_
              refine g_iconst C (v := 0) dX7_readOne_111 (by decide) ?_
              refine g_iconst C (v := 0) dX7_readOne_112 (by decide) ?_
              refine g_callVI C K (c_X7_addStep W9 hLx hkx 19 0 0 (rg_w rc_0 (by decide) (by decide)) hUI_512183  (fun q => absurd q (by decide))) hLx hkx (by decide) rfl v_7_63 rfl ⟨rfl, rfl⟩ ⟨Nat.le_of_ble_eq_true rfl, Nat.le_of_ble_eq_true rfl⟩ (Nat.le_of_ble_eq_true rfl) ⟨Nat.le_of_ble_eq_true rfl, Nat.le_of_ble_eq_true rfl⟩ dX7_readOne_113 rfl (st := []) (fun x_512192 I_512193 J_512194 h_512195 => ?_)
              obtain ⟨hUI_512193, hFI_512193, hGJ_512194, rx_512192⟩ := h_512195
              have hF_512196 := fq_tr hF_512186 hFI_512193 (by decide)
              have hG_512197 := fq_tr hG_512187 hGJ_512194 (by decide)
              refine g_if_eq C (tgt := 123) dX7_readOne_116 (by decide) (fun h_512198 => ?_) (fun h_512198 => ?_)
              · skip
                have r_512199 := (⟨(rx_512192).1, (eq_rg (h_512198) rc_0).2⟩ : Rg 0 0 x_512192)
                refine g_iconst C (v := 0) dX7_readOne_123 (by decide) ?_
                exact g_zret (ty := .boolean) (r := 0) B K rfl (rfl) ⟨hUI_512193, hF_512196, hG_512197, rg_w rc_0 (by decide) (by decide)⟩ dX7_readOne_124
              · skip
                have n_512200 : ¬ x_512192 = 0 := h_512198
                have r_512201 := ne_lo (lo := 1) n_512200 rx_512192 rc_0 rfl (by decide)
                refine g_iconst C (v := 1) dX7_readOne_119 (by decide) ?_
                refine g_goto C (tgt := 124) dX7_readOne_120 (by decide) ?_
                exact g_zret (ty := .boolean) (r := 1) B K rfl (rfl) ⟨hUI_512193, hF_512196, hG_512197, rg_w rc_1 (by decide) (by decide)⟩ dX7_readOne_124
        · skip
          have r_512202 := (⟨(eq_rg (h_512170) rc_40).1, (eq_rg (h_512170) rc_40).2⟩ : Rg 40 40 x_512147)
          refine g_aload_n C 1 dX7_readOne_62 rfl rfl ?_
          refine g_aload_n C 2 dX7_readOne_63 rfl rfl ?_
          refine g_aload_n C 3 dX7_readOne_64 rfl rfl ?_
          refine g_iload_n C 4 dX7_readOne_65 rfl rfl ?_
          refine g_iconst C (v := 1) dX7_readOne_66 (by decide) ?_
          obtain ⟨x_512203, hx_512203, rx_512203, tx_512203⟩ := ex_add 6 6 ra2 rc_1 (by decide) (by decide) (by decide) (by decide)
          refine g_iadd C (v := x_512203) dX7_readOne_67 hx_512203 ?_
          refine g_callVI C K (c_X7_readCond_6 W9 hLx hkx hLa0 hka0 hLa1 hka1 x_512203 (rx_512203) hUI_512165) hLx hkx (by decide) rfl v_7_46 rfl ⟨rfl, rfl⟩ ⟨Nat.le_of_ble_eq_true rfl, Nat.le_of_ble_eq_true rfl⟩ (Nat.le_of_ble_eq_true rfl) ⟨Nat.le_of_ble_eq_true rfl, Nat.le_of_ble_eq_true rfl⟩ dX7_readOne_68 rfl (st := []) (fun x_512204 I_512205 J_512206 h_512207 => ?_)
          obtain ⟨hUI_512205, hFI_512205, hGJ_512206, rx_512204⟩ := h_512207
          have hF_512208 := fq_tr hF_512168 hFI_512205 (by decide)
          have hG_512209 := fq_tr hG_512169 hGJ_512206 (by decide)
          refine g_if_eq C (tgt := 87) dX7_readOne_71 (by decide) (fun h_512210 => ?_) (fun h_512210 => ?_)
          · skip
            have r_512211 := (⟨(rx_512204).1, (eq_rg (h_512210) rc_0).2⟩ : Rg 0 0 x_512204)
            refine g_iconst C (v := 0) dX7_readOne_87 (by decide) ?_
            exact g_zret (ty := .boolean) (r := 0) B K rfl (rfl) ⟨hUI_512205, hF_512208, hG_512209, rg_w rc_0 (by decide) (by decide)⟩ dX7_readOne_88
          · skip
            have n_512212 : ¬ x_512204 = 0 := h_512210
            have r_512213 := ne_lo (lo := 1) n_512212 rx_512204 rc_0 rfl (by decide)
            refine g_aload_n C 2 dX7_readOne_74 rfl rfl ?_
            refine g_bipush C (v := 41) dX7_readOne_75 (by decide) ?_
            refine g_callVI C K (c_X10_take W9 hLa0 hka0 41 (rg_w rc_41 (by decide) (by decide)) hUI_512205) hLa0 hka0 (by decide) rfl v_7_50 rfl ⟨rfl, rfl⟩ ⟨Nat.le_of_ble_eq_true rfl, Nat.le_of_ble_eq_true rfl⟩ (Nat.le_of_ble_eq_true rfl) ⟨Nat.le_of_ble_eq_true rfl, Nat.le_of_ble_eq_true rfl⟩ dX7_readOne_77 rfl (st := []) (fun x_512214 I_512215 J_512216 h_512217 => ?_)
            obtain ⟨hUI_512215, hFI_512215, hGJ_512216, rx_512214⟩ := h_512217
            have hF_512218 := fq_tr hF_512208 hFI_512215 (by decide)
            have hG_512219 := fq_tr hG_512209 hGJ_512216 (by decide)
            refine g_if_eq C (tgt := 87) dX7_readOne_80 (by decide) (fun h_512220 => ?_) (fun h_512220 => ?_)
            · skip
              have r_512221 := (⟨(rx_512214).1, (eq_rg (h_512220) rc_0).2⟩ : Rg 0 0 x_512214)
              refine g_iconst C (v := 0) dX7_readOne_87 (by decide) ?_
              exact g_zret (ty := .boolean) (r := 0) B K rfl (rfl) ⟨hUI_512215, hF_512218, hG_512219, rg_w rc_0 (by decide) (by decide)⟩ dX7_readOne_88
            · skip
              have n_512222 : ¬ x_512214 = 0 := h_512220
              have r_512223 := ne_lo (lo := 1) n_512222 rx_512214 rc_0 rfl (by decide)
              refine g_iconst C (v := 1) dX7_readOne_83 (by decide) ?_
              refine g_goto C (tgt := 88) dX7_readOne_84 (by decide) ?_
              exact g_zret (ty := .boolean) (r := 1) B K rfl (rfl) ⟨hUI_512215, hF_512218, hG_512219, rg_w rc_1 (by decide) (by decide)⟩ dX7_readOne_88
      · skip
        have r_512224 := lt_r (lo := 9) (nle h_512159) rc_8 ra2 (by decide)
        exact rg_no r_512224 (by decide)
  · skip
    have r_512225 := (⟨(rx_512148).1, (eq_rg (h_512152) rc_0).2⟩ : Rg 0 0 x_512148)
    refine g_aload_n C 2 dX7_readOne_14 rfl rfl ?_
    refine g_iconst C (v := 1) dX7_readOne_15 (by decide) ?_
    refine g_callVI C K (c_X10_fail W9 hLa0 hka0 1 (rg_w rc_1 (by decide) (by decide)) hU) hLa0 hka0 (by decide) rfl v_7_73 rfl ⟨rfl, rfl⟩ ⟨Nat.le_of_ble_eq_true rfl, Nat.le_of_ble_eq_true rfl⟩ (Nat.le_of_ble_eq_true rfl) ⟨Nat.le_of_ble_eq_true rfl, Nat.le_of_ble_eq_true rfl⟩ dX7_readOne_16 rfl (st := []) (fun x_512226 I_512227 J_512228 h_512229 => ?_)
    obtain ⟨hUI_512227, hFI_512227, hGJ_512228, rx_512226⟩ := h_512229
    have hF_512230 := fq_tr hF hFI_512227 (by decide)
    have hG_512231 := fq_tr hG hGJ_512228 (by decide)
    exact g_zret (ty := .boolean) (r := x_512226) B K rfl (nar_z (rg_w rx_512226 (by decide) (by decide))) ⟨hUI_512227, hF_512230, hG_512231, rg_w rx_512226 (by decide) (by decide)⟩ dX7_readOne_19
set_option maxRecDepth 100000 in
set_option maxHeartbeats 8000000 in
theorem c_X7_readAll_5 {l : Launch} {D : va_G} {cy : Nat → ClassId} {L : List Nat} {κ ln : Nat → Nat} {R : Nat → Nat → Option Nat} {I : Nat → Nat → Int32} {J : Nat → Nat → Int64} {ow : Nat → Nat × Nat} (W9 : ∀ a ∈ L, Shp L κ ln R ow a) {x : Nat} (hLx : x ∈ L) (hkx : κ x = 7) {a0 : Nat} (hLa0 : a0 ∈ L) (hka0 : κ a0 = 10) {a1 : Nat} (hLa1 : a1 ∈ L) (hka1 : κ a1 = 8) (a2 : Int32) (ra2 : Rg 5 5 a2) (hU : Iv L κ R ow I) : CtI l yX7_readAll cX7_readAll 6 (some .boolean) { frames := 14, cells := 0, slots := 0, locals := 341 } D cy L κ ln R I J [.ref x, .ref a0, .ref a1, .int a2] (fun r I2 J2 => Iv L κ R ow I2 ∧ Fq L κ ow [704, 705, 1007, 1008, 1009, 1011, 1012, 52000, 52100, 52200] I I2 ∧ Fq L κ ow [1010] J J2 ∧ Rg 0 1 r) := by
  refine CtI.of (by decide +kernel) (Nat.le_of_ble_eq_true rfl) ?_
  intro p e s m below meth c B K
  have C := B.1
  have hF : Fq L κ ow [704, 705, 1007, 1008, 1009, 1011, 1012, 52000, 52100, 52200] I I := fq_rf
  have hG : Fq L κ ow [1010] J J := fq_rf
  refine g_lo (is := [0, 1, 2, 3]) (lo2 := [(0, .ref x), (1, .ref a0), (2, .ref a1), (3, .int a2)]) rfl ?_
  have l_12 : ∀ (n_12 : Nat) (I_512875 : Nat → Nat → Int32) (J_512876 : Nat → Nat → Int64) (hU_512877 : Iv L κ R ow I_512875) (hF_512878 : Fq L κ ow [704, 705, 1007, 1008, 1009, 1011, 1012, 52000, 52100, 52200] I I_512875) (hG_512879 : Fq L κ ow [1010] J J_512876) (v_512880 : Int32) (rv_512880 : Rg 5 5 v_512880) (v_512881 : Int32) (rv_512881 : Rg 0 1 v_512881) (v_512882 : Int32) (rv_512882 : Rg 0 20 v_512882) (hm_512883 : 20 < (v_512882 : Int32).toInt + (n_12 : Int)), WG p l e { frames := 14, cells := 0, slots := 0, locals := 341 } s m ([.ref x, .ref a0, .ref a1, .int a2] : List Value).toArray below meth c 6 0 0 (MQ below (Qi_ D cy L κ ln R (fun r I2 J2 => Iv L κ R ow I2 ∧ Fq L κ ow [704, 705, 1007, 1008, 1009, 1011, 1012, 52000, 52100, 52200] I I2 ∧ Fq L κ ow [1010] J J2 ∧ Rg 0 1 r)) ([.ref x, .ref a0, .ref a1, .int a2] : List Value).toArray s 0 0 (Al_ L)) D cy (Al_ L) s.heap L κ ln R I_512875 J_512876 12 [(0, .ref x), (1, .ref a0), (2, .ref a1), (3, .int v_512880), (4, .int v_512881), (5, .int v_512882)] [] := by
    intro n_12
    induction n_12 with
    | zero =>
      intro I_512875 J_512876 hU_512877 hF_512878 hG_512879 v_512880 rv_512880 v_512881 rv_512881 v_512882 rv_512882 hm_512883
      exact ms_0 rv_512882 hm_512883
    | succ n_12 ih_12 =>
      intro I_512875 J_512876 hU_512877 hF_512878 hG_512879 v_512880 rv_512880 v_512881 rv_512881 v_512882 rv_512882 hm_512883
      have j_62 : ∀ (I_512884 : Nat → Nat → Int32) (J_512885 : Nat → Nat → Int64) (hU_512886 : Iv L κ R ow I_512884) (hF_512887 : Fq L κ ow [704, 705, 1007, 1008, 1009, 1011, 1012, 52000, 52100, 52200] I I_512884) (hG_512888 : Fq L κ ow [1010] J J_512885) (v_512889 : Int32) (rv_512889 : Rg 5 5 v_512889) (v_512890 : Int32) (rv_512890 : Rg 1 1 v_512890) (nv_512890_0 : ¬ v_512890 = 0) (v_512891 : Int32) (rv_512891 : Rg 0 19 v_512891) (hm_512892 : 20 < (v_512891 : Int32).toInt + ((n_12 + 1 : Nat) : Int)), WG p l e { frames := 14, cells := 0, slots := 0, locals := 341 } s m ([.ref x, .ref a0, .ref a1, .int a2] : List Value).toArray below meth c 6 0 0 (MQ below (Qi_ D cy L κ ln R (fun r I2 J2 => Iv L κ R ow I2 ∧ Fq L κ ow [704, 705, 1007, 1008, 1009, 1011, 1012, 52000, 52100, 52200] I I2 ∧ Fq L κ ow [1010] J J2 ∧ Rg 0 1 r)) ([.ref x, .ref a0, .ref a1, .int a2] : List Value).toArray s 0 0 (Al_ L)) D cy (Al_ L) s.heap L κ ln R I_512884 J_512885 62 [(0, .ref x), (1, .ref a0), (2, .ref a1), (3, .int v_512889), (4, .int v_512890), (5, .int v_512891)] [] := by
        intro I_512884 J_512885 hU_512886 hF_512887 hG_512888 v_512889 rv_512889 v_512890 rv_512890 nv_512890_0 v_512891 rv_512891 hm_512892
        refine g_iconst C (v := 0) dX7_readAll_62 (by decide) ?_
        refine g_istore C dX7_readAll_63 (by decide) (lo2 := [(4, .int 0), (0, .ref x), (1, .ref a0), (2, .ref a1), (3, .int v_512889), (5, .int v_512891)]) rfl ?_
        obtain ⟨x_512893, hx_512893, rx_512893, tx_512893⟩ := ex_add (y := 1) 1 20 rv_512891 rc_1 (by decide) (by decide) (by decide) (by decide)
        refine g_iinc C dX7_readAll_65 (k := 5) (v := x_512893) rfl hx_512893 (by decide) (lo2 := [(5, .int x_512893), (4, .int 0), (0, .ref x), (1, .ref a0), (2, .ref a1), (3, .int v_512889)]) rfl ?_
        refine g_goto C (tgt := 12) dX7_readAll_68 (by decide) ?_
        refine g_lo (is := [2, 3, 4, 5, 1, 0]) (lo2 := [(0, .ref x), (1, .ref a0), (2, .ref a1), (3, .int v_512889), (4, .int 0), (5, .int x_512893)]) rfl ?_
        exact ih_12 I_512884 J_512885 hU_512886 hF_512887 hG_512888 v_512889 (rv_512889) 0 (rg_w rc_0 (by decide) (by decide)) x_512893 (rg_w rx_512893 (by decide) (by decide)) (ms_1 hm_512892 (ti_k tx_512893 rc_1) (by decide))
      refine g_iload C 5 dX7_readAll_12 rfl ?_
      refine g_bipush C (v := 20) dX7_readAll_14 (by decide) ?_
      refine g_icmp_ge C (tgt := 71) dX7_readAll_16 (by decide) (fun h_512894 => ?_) (fun h_512894 => ?_)
      · skip
        have r_512895 := le_r (h_512894) rc_20 rv_512882
        refine g_iload C 4 dX7_readAll_71 rfl ?_
        exact g_zret (ty := .boolean) (r := v_512881) B K rfl (nar_z (rv_512881)) ⟨hU_512877, hF_512878, hG_512879, rv_512881⟩ dX7_readAll_73
      · skip
        have r_512896 := lt_l (hi := 19) (nle h_512894) rv_512882 rc_20 (by decide)
        refine g_iload C 4 dX7_readAll_19 rfl ?_
        refine g_if_eq C (tgt := 71) dX7_readAll_21 (by decide) (fun h_512897 => ?_) (fun h_512897 => ?_)
        · skip
          have r_512898 := (⟨(rv_512881).1, (eq_rg (h_512897) rc_0).2⟩ : Rg 0 0 v_512881)
          refine g_iload C 4 dX7_readAll_71 rfl ?_
          exact g_zret (ty := .boolean) (r := v_512881) B K rfl (nar_z (rg_w r_512898 (by decide) (by decide))) ⟨hU_512877, hF_512878, hG_512879, rg_w r_512898 (by decide) (by decide)⟩ dX7_readAll_73
        · skip
          have n_512899 : ¬ v_512881 = 0 := h_512897
          have r_512900 := ne_lo (lo := 1) n_512899 rv_512881 rc_0 rfl (by decide)
          refine g_aload_n C 1 dX7_readAll_24 rfl rfl ?_
          obtain ⟨x_512901, hx_512901, rx_512901⟩ := ex_get (I := I_512875) (a := a0) (j := 8) (lo := (-2147483648)) (hi := 2147483647) hU_512877.1 hLa0 (ro_o hka0 (by decide)) rfl
          refine g_getI C K hLa0 hka0 f_7_57 (v := x_512901) hx_512901 dX7_readAll_25 ?_
          refine g_bipush C (v := 18) dX7_readAll_28 (by decide) ?_
          refine g_icmp_ne C (tgt := 71) dX7_readAll_30 (by decide) (fun h_512902 => ?_) (fun h_512902 => ?_)
          · skip
            have n_512903 : ¬ x_512901 = 18 := h_512902
            refine g_iload C 4 dX7_readAll_71 rfl ?_
            exact g_zret (ty := .boolean) (r := v_512881) B K rfl (nar_z (rg_w r_512900 (by decide) (by decide))) ⟨hU_512877, hF_512878, hG_512879, rg_w r_512900 (by decide) (by decide)⟩ dX7_readAll_73
          · skip
            have r_512904 := (⟨(eq_rg (h_512902) rc_18).1, (eq_rg (h_512902) rc_18).2⟩ : Rg 18 18 x_512901)
            refine g_aload_n C 1 dX7_readAll_33 rfl rfl ?_
            refine g_callVV C K (c_X10_advance W9 hLa0 hka0   hU_512877) hLa0 hka0 (by decide) rfl v_7_60 rfl ⟨rfl, rfl⟩ ⟨Nat.le_of_ble_eq_true rfl, Nat.le_of_ble_eq_true rfl⟩ (Nat.le_of_ble_eq_true rfl) ⟨Nat.le_of_ble_eq_true rfl, Nat.le_of_ble_eq_true rfl⟩ dX7_readAll_34 rfl (st := []) (fun I_512906 J_512907 h_512908 => ?_)
            obtain ⟨hUI_512906, hFI_512906, hGJ_512907⟩ := h_512908
            have hF_512909 := fq_tr hF_512878 hFI_512906 (by decide)
            have hG_512910 := fq_tr hG_512879 hGJ_512907 (by decide)
            refine g_aload_n C 0 dX7_readAll_37 rfl rfl ?_
            refine g_aload_n C 1 dX7_readAll_38 rfl rfl ?_
            refine g_aload_n C 2 dX7_readAll_39 rfl rfl ?_
            refine g_iload_n C 3 dX7_readAll_40 rfl rfl ?_
            refine g_callVI C K (c_X7_readOne_5 W9 hLx hkx hLa0 hka0 hLa1 hka1 v_512880 (rv_512880) hUI_512906) hLx hkx (by decide) rfl v_7_67 rfl ⟨rfl, rfl⟩ ⟨Nat.le_of_ble_eq_true rfl, Nat.le_of_ble_eq_true rfl⟩ (Nat.le_of_ble_eq_true rfl) ⟨Nat.le_of_ble_eq_true rfl, Nat.le_of_ble_eq_true rfl⟩ dX7_readAll_41 rfl (st := []) (fun x_512911 I_512912 J_512913 h_512914 => ?_)
            obtain ⟨hUI_512912, hFI_512912, hGJ_512913, rx_512911⟩ := h_512914
            have hF_512915 := fq_tr hF_512909 hFI_512912 (by decide)
            have hG_512916 := fq_tr hG_512910 hGJ_512913 (by decide)
            refine g_if_eq C (tgt := 62) dX7_readAll_44 (by decide) (fun h_512917 => ?_) (fun h_512917 => ?_)
            · skip
              have r_512918 := (⟨(rx_512911).1, (eq_rg (h_512917) rc_0).2⟩ : Rg 0 0 x_512911)
              refine g_lo (is := [0, 1, 2, 3, 4, 5]) (lo2 := [(0, .ref x), (1, .ref a0), (2, .ref a1), (3, .int v_512880), (4, .int v_512881), (5, .int v_512882)]) rfl ?_
              exact j_62 I_512912 J_512913 hUI_512912 hF_512915 hG_512916 v_512880 (rv_512880) v_512881 (r_512900) (n_512899) v_512882 (r_512896) hm_512883
            · skip
              have n_512919 : ¬ x_512911 = 0 := h_512917
              have r_512920 := ne_lo (lo := 1) n_512919 rx_512911 rc_0 rfl (by decide)
              refine g_aload_n C 0 dX7_readAll_47 rfl rfl ?_
              refine g_bipush C (v := 18) dX7_readAll_48 (by decide) ?_
              refine g_iconst C (v := 0) dX7_readAll_50 (by decide) ?_
              refine g_iconst C (v := 0) dX7_readAll_51 (by decide) ?_
              refine g_callVI C K (c_X7_addStep W9 hLx hkx 18 0 0 (rg_w rc_0 (by decide) (by decide)) hUI_512912  (fun q => absurd q (by decide))) hLx hkx (by decide) rfl v_7_63 rfl ⟨rfl, rfl⟩ ⟨Nat.le_of_ble_eq_true rfl, Nat.le_of_ble_eq_true rfl⟩ (Nat.le_of_ble_eq_true rfl) ⟨Nat.le_of_ble_eq_true rfl, Nat.le_of_ble_eq_true rfl⟩ dX7_readAll_52 rfl (st := []) (fun x_512921 I_512922 J_512923 h_512924 => ?_)
              obtain ⟨hUI_512922, hFI_512922, hGJ_512923, rx_512921⟩ := h_512924
              have hF_512925 := fq_tr hF_512915 hFI_512922 (by decide)
              have hG_512926 := fq_tr hG_512916 hGJ_512923 (by decide)
              refine g_if_eq C (tgt := 62) dX7_readAll_55 (by decide) (fun h_512927 => ?_) (fun h_512927 => ?_)
              · skip
                have r_512928 := (⟨(rx_512921).1, (eq_rg (h_512927) rc_0).2⟩ : Rg 0 0 x_512921)
                refine g_lo (is := [0, 1, 2, 3, 4, 5]) (lo2 := [(0, .ref x), (1, .ref a0), (2, .ref a1), (3, .int v_512880), (4, .int v_512881), (5, .int v_512882)]) rfl ?_
                exact j_62 I_512922 J_512923 hUI_512922 hF_512925 hG_512926 v_512880 (rv_512880) v_512881 (r_512900) (n_512899) v_512882 (r_512896) hm_512883
              · skip
                have n_512929 : ¬ x_512921 = 0 := h_512927
                have r_512930 := ne_lo (lo := 1) n_512929 rx_512921 rc_0 rfl (by decide)
                refine g_iconst C (v := 1) dX7_readAll_58 (by decide) ?_
                refine g_goto C (tgt := 63) dX7_readAll_59 (by decide) ?_
                refine g_istore C dX7_readAll_63 (by decide) (lo2 := [(4, .int 1), (0, .ref x), (1, .ref a0), (2, .ref a1), (3, .int v_512880), (5, .int v_512882)]) rfl ?_
                obtain ⟨x_512931, hx_512931, rx_512931, tx_512931⟩ := ex_add (y := 1) 1 20 r_512896 rc_1 (by decide) (by decide) (by decide) (by decide)
                refine g_iinc C dX7_readAll_65 (k := 5) (v := x_512931) rfl hx_512931 (by decide) (lo2 := [(5, .int x_512931), (4, .int 1), (0, .ref x), (1, .ref a0), (2, .ref a1), (3, .int v_512880)]) rfl ?_
                refine g_goto C (tgt := 12) dX7_readAll_68 (by decide) ?_
                refine g_lo (is := [2, 3, 4, 5, 1, 0]) (lo2 := [(0, .ref x), (1, .ref a0), (2, .ref a1), (3, .int v_512880), (4, .int 1), (5, .int x_512931)]) rfl ?_
                exact ih_12 I_512922 J_512923 hUI_512922 hF_512925 hG_512926 v_512880 (rv_512880) 1 (rg_w rc_1 (by decide) (by decide)) x_512931 (rg_w rx_512931 (by decide) (by decide)) (ms_1 hm_512883 (ti_k tx_512931 rc_1) (by decide))
  refine g_aload_n C 0 dX7_readAll_0 rfl rfl ?_
  refine g_aload_n C 1 dX7_readAll_1 rfl rfl ?_
  refine g_aload_n C 2 dX7_readAll_2 rfl rfl ?_
  refine g_iload_n C 3 dX7_readAll_3 rfl rfl ?_
  refine g_callVI C K (c_X7_readOne_5 W9 hLx hkx hLa0 hka0 hLa1 hka1 a2 (ra2) hU) hLx hkx (by decide) rfl v_7_67 rfl ⟨rfl, rfl⟩ ⟨Nat.le_of_ble_eq_true rfl, Nat.le_of_ble_eq_true rfl⟩ (Nat.le_of_ble_eq_true rfl) ⟨Nat.le_of_ble_eq_true rfl, Nat.le_of_ble_eq_true rfl⟩ dX7_readAll_4 rfl (st := []) (fun x_512932 I_512933 J_512934 h_512935 => ?_)
  obtain ⟨hUI_512933, hFI_512933, hGJ_512934, rx_512932⟩ := h_512935
  have hF_512936 := fq_tr hF hFI_512933 (by decide)
  have hG_512937 := fq_tr hG hGJ_512934 (by decide)
  refine g_istore C dX7_readAll_7 (by decide) (lo2 := [(4, .int x_512932), (0, .ref x), (1, .ref a0), (2, .ref a1), (3, .int a2)]) rfl ?_
  refine g_iconst C (v := 0) dX7_readAll_9 (by decide) ?_
  refine g_istore C dX7_readAll_10 (by decide) (lo2 := [(5, .int 0), (4, .int x_512932), (0, .ref x), (1, .ref a0), (2, .ref a1), (3, .int a2)]) rfl ?_
  refine g_lo (is := [2, 3, 4, 5, 1, 0]) (lo2 := [(0, .ref x), (1, .ref a0), (2, .ref a1), (3, .int a2), (4, .int x_512932), (5, .int 0)]) rfl ?_
  exact l_12 21 I_512933 J_512934 hUI_512933 hF_512936 hG_512937 a2 (ra2) x_512932 (rx_512932) 0 (rg_w rc_0 (by decide) (by decide)) (ms_s (a := 0) (b := 20) (N := 21) (rg_w rc_0 (by decide) (by decide)) (by decide))
set_option maxRecDepth 100000 in
set_option maxHeartbeats 8000000 in
theorem c_X7_readCond_5 {l : Launch} {D : va_G} {cy : Nat → ClassId} {L : List Nat} {κ ln : Nat → Nat} {R : Nat → Nat → Option Nat} {I : Nat → Nat → Int32} {J : Nat → Nat → Int64} {ow : Nat → Nat × Nat} (W9 : ∀ a ∈ L, Shp L κ ln R ow a) {x : Nat} (hLx : x ∈ L) (hkx : κ x = 7) {a0 : Nat} (hLa0 : a0 ∈ L) (hka0 : κ a0 = 10) {a1 : Nat} (hLa1 : a1 ∈ L) (hka1 : κ a1 = 8) (a2 : Int32) (ra2 : Rg 5 5 a2) (hU : Iv L κ R ow I) : CtI l yX7_readCond cX7_readCond 6 (some .boolean) { frames := 15, cells := 0, slots := 0, locals := 366 } D cy L κ ln R I J [.ref x, .ref a0, .ref a1, .int a2] (fun r I2 J2 => Iv L κ R ow I2 ∧ Fq L κ ow [704, 705, 1007, 1008, 1009, 1011, 1012, 52000, 52100, 52200] I I2 ∧ Fq L κ ow [1010] J J2 ∧ Rg 0 1 r) := by
  refine CtI.of (by decide +kernel) (Nat.le_of_ble_eq_true rfl) ?_
  intro p e s m below meth c B K
  have C := B.1
  have hF : Fq L κ ow [704, 705, 1007, 1008, 1009, 1011, 1012, 52000, 52100, 52200] I I := fq_rf
  have hG : Fq L κ ow [1010] J J := fq_rf
  refine g_lo (is := [0, 1, 2, 3]) (lo2 := [(0, .ref x), (1, .ref a0), (2, .ref a1), (3, .int a2)]) rfl ?_
  have l_12 : ∀ (n_12 : Nat) (I_513618 : Nat → Nat → Int32) (J_513619 : Nat → Nat → Int64) (hU_513620 : Iv L κ R ow I_513618) (hF_513621 : Fq L κ ow [704, 705, 1007, 1008, 1009, 1011, 1012, 52000, 52100, 52200] I I_513618) (hG_513622 : Fq L κ ow [1010] J J_513619) (v_513623 : Int32) (rv_513623 : Rg 5 5 v_513623) (v_513624 : Int32) (rv_513624 : Rg 0 1 v_513624) (v_513625 : Int32) (rv_513625 : Rg 0 20 v_513625) (hm_513626 : 20 < (v_513625 : Int32).toInt + (n_12 : Int)), WG p l e { frames := 15, cells := 0, slots := 0, locals := 366 } s m ([.ref x, .ref a0, .ref a1, .int a2] : List Value).toArray below meth c 6 0 0 (MQ below (Qi_ D cy L κ ln R (fun r I2 J2 => Iv L κ R ow I2 ∧ Fq L κ ow [704, 705, 1007, 1008, 1009, 1011, 1012, 52000, 52100, 52200] I I2 ∧ Fq L κ ow [1010] J J2 ∧ Rg 0 1 r)) ([.ref x, .ref a0, .ref a1, .int a2] : List Value).toArray s 0 0 (Al_ L)) D cy (Al_ L) s.heap L κ ln R I_513618 J_513619 12 [(0, .ref x), (1, .ref a0), (2, .ref a1), (3, .int v_513623), (4, .int v_513624), (5, .int v_513625)] [] := by
    intro n_12
    induction n_12 with
    | zero =>
      intro I_513618 J_513619 hU_513620 hF_513621 hG_513622 v_513623 rv_513623 v_513624 rv_513624 v_513625 rv_513625 hm_513626
      exact ms_0 rv_513625 hm_513626
    | succ n_12 ih_12 =>
      intro I_513618 J_513619 hU_513620 hF_513621 hG_513622 v_513623 rv_513623 v_513624 rv_513624 v_513625 rv_513625 hm_513626
      have j_62 : ∀ (I_513627 : Nat → Nat → Int32) (J_513628 : Nat → Nat → Int64) (hU_513629 : Iv L κ R ow I_513627) (hF_513630 : Fq L κ ow [704, 705, 1007, 1008, 1009, 1011, 1012, 52000, 52100, 52200] I I_513627) (hG_513631 : Fq L κ ow [1010] J J_513628) (v_513632 : Int32) (rv_513632 : Rg 5 5 v_513632) (v_513633 : Int32) (rv_513633 : Rg 1 1 v_513633) (nv_513633_0 : ¬ v_513633 = 0) (v_513634 : Int32) (rv_513634 : Rg 0 19 v_513634) (hm_513635 : 20 < (v_513634 : Int32).toInt + ((n_12 + 1 : Nat) : Int)), WG p l e { frames := 15, cells := 0, slots := 0, locals := 366 } s m ([.ref x, .ref a0, .ref a1, .int a2] : List Value).toArray below meth c 6 0 0 (MQ below (Qi_ D cy L κ ln R (fun r I2 J2 => Iv L κ R ow I2 ∧ Fq L κ ow [704, 705, 1007, 1008, 1009, 1011, 1012, 52000, 52100, 52200] I I2 ∧ Fq L κ ow [1010] J J2 ∧ Rg 0 1 r)) ([.ref x, .ref a0, .ref a1, .int a2] : List Value).toArray s 0 0 (Al_ L)) D cy (Al_ L) s.heap L κ ln R I_513627 J_513628 62 [(0, .ref x), (1, .ref a0), (2, .ref a1), (3, .int v_513632), (4, .int v_513633), (5, .int v_513634)] [] := by
        intro I_513627 J_513628 hU_513629 hF_513630 hG_513631 v_513632 rv_513632 v_513633 rv_513633 nv_513633_0 v_513634 rv_513634 hm_513635
        refine g_iconst C (v := 0) dX7_readCond_62 (by decide) ?_
        refine g_istore C dX7_readCond_63 (by decide) (lo2 := [(4, .int 0), (0, .ref x), (1, .ref a0), (2, .ref a1), (3, .int v_513632), (5, .int v_513634)]) rfl ?_
        obtain ⟨x_513636, hx_513636, rx_513636, tx_513636⟩ := ex_add (y := 1) 1 20 rv_513634 rc_1 (by decide) (by decide) (by decide) (by decide)
        refine g_iinc C dX7_readCond_65 (k := 5) (v := x_513636) rfl hx_513636 (by decide) (lo2 := [(5, .int x_513636), (4, .int 0), (0, .ref x), (1, .ref a0), (2, .ref a1), (3, .int v_513632)]) rfl ?_
        refine g_goto C (tgt := 12) dX7_readCond_68 (by decide) ?_
        refine g_lo (is := [2, 3, 4, 5, 1, 0]) (lo2 := [(0, .ref x), (1, .ref a0), (2, .ref a1), (3, .int v_513632), (4, .int 0), (5, .int x_513636)]) rfl ?_
        exact ih_12 I_513627 J_513628 hU_513629 hF_513630 hG_513631 v_513632 (rv_513632) 0 (rg_w rc_0 (by decide) (by decide)) x_513636 (rg_w rx_513636 (by decide) (by decide)) (ms_1 hm_513635 (ti_k tx_513636 rc_1) (by decide))
      refine g_iload C 5 dX7_readCond_12 rfl ?_
      refine g_bipush C (v := 20) dX7_readCond_14 (by decide) ?_
      refine g_icmp_ge C (tgt := 71) dX7_readCond_16 (by decide) (fun h_513637 => ?_) (fun h_513637 => ?_)
      · skip
        have r_513638 := le_r (h_513637) rc_20 rv_513625
        refine g_iload C 4 dX7_readCond_71 rfl ?_
        exact g_zret (ty := .boolean) (r := v_513624) B K rfl (nar_z (rv_513624)) ⟨hU_513620, hF_513621, hG_513622, rv_513624⟩ dX7_readCond_73
      · skip
        have r_513639 := lt_l (hi := 19) (nle h_513637) rv_513625 rc_20 (by decide)
        refine g_iload C 4 dX7_readCond_19 rfl ?_
        refine g_if_eq C (tgt := 71) dX7_readCond_21 (by decide) (fun h_513640 => ?_) (fun h_513640 => ?_)
        · skip
          have r_513641 := (⟨(rv_513624).1, (eq_rg (h_513640) rc_0).2⟩ : Rg 0 0 v_513624)
          refine g_iload C 4 dX7_readCond_71 rfl ?_
          exact g_zret (ty := .boolean) (r := v_513624) B K rfl (nar_z (rg_w r_513641 (by decide) (by decide))) ⟨hU_513620, hF_513621, hG_513622, rg_w r_513641 (by decide) (by decide)⟩ dX7_readCond_73
        · skip
          have n_513642 : ¬ v_513624 = 0 := h_513640
          have r_513643 := ne_lo (lo := 1) n_513642 rv_513624 rc_0 rfl (by decide)
          refine g_aload_n C 1 dX7_readCond_24 rfl rfl ?_
          obtain ⟨x_513644, hx_513644, rx_513644⟩ := ex_get (I := I_513618) (a := a0) (j := 8) (lo := (-2147483648)) (hi := 2147483647) hU_513620.1 hLa0 (ro_o hka0 (by decide)) rfl
          refine g_getI C K hLa0 hka0 f_7_57 (v := x_513644) hx_513644 dX7_readCond_25 ?_
          refine g_bipush C (v := 17) dX7_readCond_28 (by decide) ?_
          refine g_icmp_ne C (tgt := 71) dX7_readCond_30 (by decide) (fun h_513645 => ?_) (fun h_513645 => ?_)
          · skip
            have n_513646 : ¬ x_513644 = 17 := h_513645
            refine g_iload C 4 dX7_readCond_71 rfl ?_
            exact g_zret (ty := .boolean) (r := v_513624) B K rfl (nar_z (rg_w r_513643 (by decide) (by decide))) ⟨hU_513620, hF_513621, hG_513622, rg_w r_513643 (by decide) (by decide)⟩ dX7_readCond_73
          · skip
            have r_513647 := (⟨(eq_rg (h_513645) rc_17).1, (eq_rg (h_513645) rc_17).2⟩ : Rg 17 17 x_513644)
            refine g_aload_n C 1 dX7_readCond_33 rfl rfl ?_
            refine g_callVV C K (c_X10_advance W9 hLa0 hka0   hU_513620) hLa0 hka0 (by decide) rfl v_7_60 rfl ⟨rfl, rfl⟩ ⟨Nat.le_of_ble_eq_true rfl, Nat.le_of_ble_eq_true rfl⟩ (Nat.le_of_ble_eq_true rfl) ⟨Nat.le_of_ble_eq_true rfl, Nat.le_of_ble_eq_true rfl⟩ dX7_readCond_34 rfl (st := []) (fun I_513649 J_513650 h_513651 => ?_)
            obtain ⟨hUI_513649, hFI_513649, hGJ_513650⟩ := h_513651
            have hF_513652 := fq_tr hF_513621 hFI_513649 (by decide)
            have hG_513653 := fq_tr hG_513622 hGJ_513650 (by decide)
            refine g_aload_n C 0 dX7_readCond_37 rfl rfl ?_
            refine g_aload_n C 1 dX7_readCond_38 rfl rfl ?_
            refine g_aload_n C 2 dX7_readCond_39 rfl rfl ?_
            refine g_iload_n C 3 dX7_readCond_40 rfl rfl ?_
            refine g_callVI C K (c_X7_readAll_5 W9 hLx hkx hLa0 hka0 hLa1 hka1 v_513623 (rv_513623) hUI_513649) hLx hkx (by decide) rfl v_7_54 rfl ⟨rfl, rfl⟩ ⟨Nat.le_of_ble_eq_true rfl, Nat.le_of_ble_eq_true rfl⟩ (Nat.le_of_ble_eq_true rfl) ⟨Nat.le_of_ble_eq_true rfl, Nat.le_of_ble_eq_true rfl⟩ dX7_readCond_41 rfl (st := []) (fun x_513654 I_513655 J_513656 h_513657 => ?_)
            obtain ⟨hUI_513655, hFI_513655, hGJ_513656, rx_513654⟩ := h_513657
            have hF_513658 := fq_tr hF_513652 hFI_513655 (by decide)
            have hG_513659 := fq_tr hG_513653 hGJ_513656 (by decide)
            refine g_if_eq C (tgt := 62) dX7_readCond_44 (by decide) (fun h_513660 => ?_) (fun h_513660 => ?_)
            · skip
              have r_513661 := (⟨(rx_513654).1, (eq_rg (h_513660) rc_0).2⟩ : Rg 0 0 x_513654)
              refine g_lo (is := [0, 1, 2, 3, 4, 5]) (lo2 := [(0, .ref x), (1, .ref a0), (2, .ref a1), (3, .int v_513623), (4, .int v_513624), (5, .int v_513625)]) rfl ?_
              exact j_62 I_513655 J_513656 hUI_513655 hF_513658 hG_513659 v_513623 (rv_513623) v_513624 (r_513643) (n_513642) v_513625 (r_513639) hm_513626
            · skip
              have n_513662 : ¬ x_513654 = 0 := h_513660
              have r_513663 := ne_lo (lo := 1) n_513662 rx_513654 rc_0 rfl (by decide)
              refine g_aload_n C 0 dX7_readCond_47 rfl rfl ?_
              refine g_bipush C (v := 17) dX7_readCond_48 (by decide) ?_
              refine g_iconst C (v := 0) dX7_readCond_50 (by decide) ?_
              refine g_iconst C (v := 0) dX7_readCond_51 (by decide) ?_
              refine g_callVI C K (c_X7_addStep W9 hLx hkx 17 0 0 (rg_w rc_0 (by decide) (by decide)) hUI_513655  (fun q => absurd q (by decide))) hLx hkx (by decide) rfl v_7_63 rfl ⟨rfl, rfl⟩ ⟨Nat.le_of_ble_eq_true rfl, Nat.le_of_ble_eq_true rfl⟩ (Nat.le_of_ble_eq_true rfl) ⟨Nat.le_of_ble_eq_true rfl, Nat.le_of_ble_eq_true rfl⟩ dX7_readCond_52 rfl (st := []) (fun x_513664 I_513665 J_513666 h_513667 => ?_)
              obtain ⟨hUI_513665, hFI_513665, hGJ_513666, rx_513664⟩ := h_513667
              have hF_513668 := fq_tr hF_513658 hFI_513665 (by decide)
              have hG_513669 := fq_tr hG_513659 hGJ_513666 (by decide)
              refine g_if_eq C (tgt := 62) dX7_readCond_55 (by decide) (fun h_513670 => ?_) (fun h_513670 => ?_)
              · skip
                have r_513671 := (⟨(rx_513664).1, (eq_rg (h_513670) rc_0).2⟩ : Rg 0 0 x_513664)
                refine g_lo (is := [0, 1, 2, 3, 4, 5]) (lo2 := [(0, .ref x), (1, .ref a0), (2, .ref a1), (3, .int v_513623), (4, .int v_513624), (5, .int v_513625)]) rfl ?_
                exact j_62 I_513665 J_513666 hUI_513665 hF_513668 hG_513669 v_513623 (rv_513623) v_513624 (r_513643) (n_513642) v_513625 (r_513639) hm_513626
              · skip
                have n_513672 : ¬ x_513664 = 0 := h_513670
                have r_513673 := ne_lo (lo := 1) n_513672 rx_513664 rc_0 rfl (by decide)
                refine g_iconst C (v := 1) dX7_readCond_58 (by decide) ?_
                refine g_goto C (tgt := 63) dX7_readCond_59 (by decide) ?_
                refine g_istore C dX7_readCond_63 (by decide) (lo2 := [(4, .int 1), (0, .ref x), (1, .ref a0), (2, .ref a1), (3, .int v_513623), (5, .int v_513625)]) rfl ?_
                obtain ⟨x_513674, hx_513674, rx_513674, tx_513674⟩ := ex_add (y := 1) 1 20 r_513639 rc_1 (by decide) (by decide) (by decide) (by decide)
                refine g_iinc C dX7_readCond_65 (k := 5) (v := x_513674) rfl hx_513674 (by decide) (lo2 := [(5, .int x_513674), (4, .int 1), (0, .ref x), (1, .ref a0), (2, .ref a1), (3, .int v_513623)]) rfl ?_
                refine g_goto C (tgt := 12) dX7_readCond_68 (by decide) ?_
                refine g_lo (is := [2, 3, 4, 5, 1, 0]) (lo2 := [(0, .ref x), (1, .ref a0), (2, .ref a1), (3, .int v_513623), (4, .int 1), (5, .int x_513674)]) rfl ?_
                exact ih_12 I_513665 J_513666 hUI_513665 hF_513668 hG_513669 v_513623 (rv_513623) 1 (rg_w rc_1 (by decide) (by decide)) x_513674 (rg_w rx_513674 (by decide) (by decide)) (ms_1 hm_513626 (ti_k tx_513674 rc_1) (by decide))
  refine g_aload_n C 0 dX7_readCond_0 rfl rfl ?_
  refine g_aload_n C 1 dX7_readCond_1 rfl rfl ?_
  refine g_aload_n C 2 dX7_readCond_2 rfl rfl ?_
  refine g_iload_n C 3 dX7_readCond_3 rfl rfl ?_
  refine g_callVI C K (c_X7_readAll_5 W9 hLx hkx hLa0 hka0 hLa1 hka1 a2 (ra2) hU) hLx hkx (by decide) rfl v_7_54 rfl ⟨rfl, rfl⟩ ⟨Nat.le_of_ble_eq_true rfl, Nat.le_of_ble_eq_true rfl⟩ (Nat.le_of_ble_eq_true rfl) ⟨Nat.le_of_ble_eq_true rfl, Nat.le_of_ble_eq_true rfl⟩ dX7_readCond_4 rfl (st := []) (fun x_513675 I_513676 J_513677 h_513678 => ?_)
  obtain ⟨hUI_513676, hFI_513676, hGJ_513677, rx_513675⟩ := h_513678
  have hF_513679 := fq_tr hF hFI_513676 (by decide)
  have hG_513680 := fq_tr hG hGJ_513677 (by decide)
  refine g_istore C dX7_readCond_7 (by decide) (lo2 := [(4, .int x_513675), (0, .ref x), (1, .ref a0), (2, .ref a1), (3, .int a2)]) rfl ?_
  refine g_iconst C (v := 0) dX7_readCond_9 (by decide) ?_
  refine g_istore C dX7_readCond_10 (by decide) (lo2 := [(5, .int 0), (4, .int x_513675), (0, .ref x), (1, .ref a0), (2, .ref a1), (3, .int a2)]) rfl ?_
  refine g_lo (is := [2, 3, 4, 5, 1, 0]) (lo2 := [(0, .ref x), (1, .ref a0), (2, .ref a1), (3, .int a2), (4, .int x_513675), (5, .int 0)]) rfl ?_
  exact l_12 21 I_513676 J_513677 hUI_513676 hF_513679 hG_513680 a2 (ra2) x_513675 (rx_513675) 0 (rg_w rc_0 (by decide) (by decide)) (ms_s (a := 0) (b := 20) (N := 21) (rg_w rc_0 (by decide) (by decide)) (by decide))
set_option maxRecDepth 100000 in
set_option maxHeartbeats 8000000 in
theorem c_X7_readOne_4 {l : Launch} {D : va_G} {cy : Nat → ClassId} {L : List Nat} {κ ln : Nat → Nat} {R : Nat → Nat → Option Nat} {I : Nat → Nat → Int32} {J : Nat → Nat → Int64} {ow : Nat → Nat × Nat} (W9 : ∀ a ∈ L, Shp L κ ln R ow a) {x : Nat} (hLx : x ∈ L) (hkx : κ x = 7) {a0 : Nat} (hLa0 : a0 ∈ L) (hka0 : κ a0 = 10) {a1 : Nat} (hLa1 : a1 ∈ L) (hka1 : κ a1 = 8) (a2 : Int32) (ra2 : Rg 4 4 a2) (hU : Iv L κ R ow I) : CtI l yX7_readOne cX7_readOne 5 (some .boolean) { frames := 16, cells := 0, slots := 0, locals := 391 } D cy L κ ln R I J [.ref x, .ref a0, .ref a1, .int a2] (fun r I2 J2 => Iv L κ R ow I2 ∧ Fq L κ ow [704, 705, 1007, 1008, 1009, 1011, 1012, 52000, 52100, 52200] I I2 ∧ Fq L κ ow [1010] J J2 ∧ Rg 0 1 r) := by
  refine CtI.of (by decide +kernel) (Nat.le_of_ble_eq_true rfl) ?_
  intro p e s m below meth c B K
  have C := B.1
  have hF : Fq L κ ow [704, 705, 1007, 1008, 1009, 1011, 1012, 52000, 52100, 52200] I I := fq_rf
  have hG : Fq L κ ow [1010] J J := fq_rf
  refine g_lo (is := [0, 1, 2, 3]) (lo2 := [(0, .ref x), (1, .ref a0), (2, .ref a1), (3, .int a2)]) rfl ?_
  have j_35 : ∀ (I_513863 : Nat → Nat → Int32) (J_513864 : Nat → Nat → Int64) (hU_513865 : Iv L κ R ow I_513863) (hF_513866 : Fq L κ ow [704, 705, 1007, 1008, 1009, 1011, 1012, 52000, 52100, 52200] I I_513863) (hG_513867 : Fq L κ ow [1010] J J_513864) (v_513868 : Int32) (rv_513868 : Rg 4 4 v_513868) (v_513869 : Int32) (v_513870 : Int32) (rv_513870 : Rg 20 2147483647 v_513870) (q_513871 : I_513863 a0 8 = v_513869) (q_513872 : I_513863 x 5 = v_513870), WG p l e { frames := 16, cells := 0, slots := 0, locals := 391 } s m ([.ref x, .ref a0, .ref a1, .int a2] : List Value).toArray below meth c 5 0 0 (MQ below (Qi_ D cy L κ ln R (fun r I2 J2 => Iv L κ R ow I2 ∧ Fq L κ ow [704, 705, 1007, 1008, 1009, 1011, 1012, 52000, 52100, 52200] I I2 ∧ Fq L κ ow [1010] J J2 ∧ Rg 0 1 r)) ([.ref x, .ref a0, .ref a1, .int a2] : List Value).toArray s 0 0 (Al_ L)) D cy (Al_ L) s.heap L κ ln R I_513863 J_513864 35 [(0, .ref x), (1, .ref a0), (2, .ref a1), (3, .int v_513868), (4, .int v_513869)] [] := by
    intro I_513863 J_513864 hU_513865 hF_513866 hG_513867 v_513868 rv_513868 v_513869 v_513870 rv_513870 q_513871 q_513872
    refine g_aload_n C 1 dX7_readOne_35 rfl rfl ?_
    refine g_iconst C (v := 4) dX7_readOne_36 (by decide) ?_
    refine g_callVI C K (c_X10_fail W9 hLa0 hka0 4 (rg_w rc_4 (by decide) (by decide)) hU_513865) hLa0 hka0 (by decide) rfl v_7_73 rfl ⟨rfl, rfl⟩ ⟨Nat.le_of_ble_eq_true rfl, Nat.le_of_ble_eq_true rfl⟩ (Nat.le_of_ble_eq_true rfl) ⟨Nat.le_of_ble_eq_true rfl, Nat.le_of_ble_eq_true rfl⟩ dX7_readOne_37 rfl (st := []) (fun x_513873 I_513874 J_513875 h_513876 => ?_)
    obtain ⟨hUI_513874, hFI_513874, hGJ_513875, rx_513873⟩ := h_513876
    have hF_513877 := fq_tr hF_513866 hFI_513874 (by decide)
    have hG_513878 := fq_tr hG_513867 hGJ_513875 (by decide)
    exact g_zret (ty := .boolean) (r := x_513873) B K rfl (nar_z (rg_w rx_513873 (by decide) (by decide))) ⟨hUI_513874, hF_513877, hG_513878, rg_w rx_513873 (by decide) (by decide)⟩ dX7_readOne_40
  refine g_aload_n C 1 dX7_readOne_0 rfl rfl ?_
  obtain ⟨x_513879, hx_513879, rx_513879⟩ := ex_get (I := I) (a := a0) (j := 8) (lo := (-2147483648)) (hi := 2147483647) hU.1 hLa0 (ro_o hka0 (by decide)) rfl
  refine g_getI C K hLa0 hka0 f_7_57 (v := x_513879) hx_513879 dX7_readOne_1 ?_
  refine g_istore C dX7_readOne_4 (by decide) (lo2 := [(4, .int x_513879), (0, .ref x), (1, .ref a0), (2, .ref a1), (3, .int a2)]) rfl ?_
  refine g_iload C 0 dX7_readOne_6 rfl ?_
  refine g_callSI C K (c_X7_beginsOne W9 x_513879  hU) s_7_70 rfl ⟨rfl, rfl⟩ ⟨Nat.le_of_ble_eq_true rfl, Nat.le_of_ble_eq_true rfl⟩ (Nat.le_of_ble_eq_true rfl) ⟨Nat.le_of_ble_eq_true rfl, Nat.le_of_ble_eq_true rfl⟩ dX7_readOne_8 rfl (st := []) (fun x_513880 I_513881 J_513882 h_513883 => ?_)
  obtain ⟨rfl, rfl, rx_513880⟩ := h_513883
  refine g_if_ne C (tgt := 20) dX7_readOne_11 (by decide) (fun h_513884 => ?_) (fun h_513884 => ?_)
  · skip
    have n_513885 : ¬ x_513880 = 0 := h_513884
    have r_513886 := ne_lo (lo := 1) n_513885 rx_513880 rc_0 rfl (by decide)
    refine g_aload_n C 1 dX7_readOne_20 rfl rfl ?_
    obtain ⟨x_513887, hx_513887, rx_513887⟩ := ex_get (I := I) (a := x) (j := 5) (lo := (-2147483648)) (hi := 2147483647) hU.1 hLx (ro_o hkx (by decide)) rfl
    refine g_getI C K hLx hkx f_7_28 (v := x_513887) hx_513887 dX7_readOne_21 ?_
    refine g_bipush C (v := 20) dX7_readOne_24 (by decide) ?_
    refine g_icmp_ge C (tgt := 35) dX7_readOne_26 (by decide) (fun h_513888 => ?_) (fun h_513888 => ?_)
    · skip
      have r_513889 := le_r (h_513888) rc_20 rx_513887
      refine g_lo (is := [1, 2, 3, 4, 0]) (lo2 := [(0, .ref x), (1, .ref a0), (2, .ref a1), (3, .int a2), (4, .int x_513879)]) rfl ?_
      exact j_35 I J hU hF hG a2 (ra2) x_513879 x_513887 (r_513889) hx_513879 hx_513887
    · skip
      have r_513890 := lt_l (hi := 19) (nle h_513888) rx_513887 rc_20 (by decide)
      refine g_iload_n C 4 dX7_readOne_29 rfl rfl ?_
      refine g_bipush C (v := 8) dX7_readOne_30 (by decide) ?_
      refine g_icmp_le C (tgt := 41) dX7_readOne_32 (by decide) (fun h_513891 => ?_) (fun h_513891 => ?_)
      · skip
        refine g_aload_n C 1 dX7_readOne_41 rfl rfl ?_
        refine g_dup C dX7_readOne_42 rfl ?_
        refine g_getI C K hLx hkx f_7_28 (v := x_513887) hx_513887 dX7_readOne_43 ?_
        refine g_iconst C (v := 1) dX7_readOne_46 (by decide) ?_
        obtain ⟨x_513892, hx_513892, rx_513892, tx_513892⟩ := ex_add (-2147483647) 20 r_513890 rc_1 (by decide) (by decide) (by decide) (by decide)
        refine g_iadd C (v := x_513892) dX7_readOne_47 hx_513892 ?_
        refine h_putI C K hLx hkx f_7_28 p_7_5 dX7_readOne_48 (fun I_513893 hI_513893 => ?_)
        have hU_513894 := iv_put W9 hU hI_513893 (ro_o hkx (by decide)) (lo := (-2147483648)) (hi := 2147483647) (rfl) (rg_all _) rfl
        have hF_513895 := fq_puto hF hI_513893 hkx (by decide) (by decide)
        refine g_aload_n C 2 dX7_readOne_51 rfl rfl ?_
        refine g_callVV C K (c_X10_advance W9 hLa0 hka0   hU_513894) hLa0 hka0 (by decide) rfl v_7_60 rfl ⟨rfl, rfl⟩ ⟨Nat.le_of_ble_eq_true rfl, Nat.le_of_ble_eq_true rfl⟩ (Nat.le_of_ble_eq_true rfl) ⟨Nat.le_of_ble_eq_true rfl, Nat.le_of_ble_eq_true rfl⟩ dX7_readOne_52 rfl (st := []) (fun I_513897 J_513898 h_513899 => ?_)
        obtain ⟨hUI_513897, hFI_513897, hGJ_513898⟩ := h_513899
        have hF_513900 := fq_tr hF_513895 hFI_513897 (by decide)
        have hG_513901 := fq_tr hG hGJ_513898 (by decide)
        refine g_iload C 0 dX7_readOne_55 rfl ?_
        refine g_bipush C (v := 40) dX7_readOne_57 (by decide) ?_
        refine g_icmp_ne C (tgt := 89) dX7_readOne_59 (by decide) (fun h_513902 => ?_) (fun h_513902 => ?_)
        · skip
          have n_513903 : ¬ x_513879 = 40 := h_513902
          refine g_iload C 0 dX7_readOne_89 rfl ?_
          refine g_bipush C (v := 19) dX7_readOne_91 (by decide) ?_
          refine g_icmp_ne C (tgt := 125) dX7_readOne_93 (by decide) (fun h_513904 => ?_) (fun h_513904 => ?_)
          · skip
            have n_513905 : ¬ x_513879 = 19 := h_513904
            refine g_aload_n C 1 dX7_readOne_125 rfl rfl ?_
            refine g_aload_n C 2 dX7_readOne_126 rfl rfl ?_
            refine g_aload_n C 3 dX7_readOne_127 rfl rfl ?_
            refine g_iload C 0 dX7_readOne_128 rfl ?_
            refine g_callVI C K (c_X7_readPlainOne W9 hLx hkx hLa0 hka0 hLa1 hka1 x_513879  hUI_513897) hLx hkx (by decide) rfl v_7_76 rfl ⟨rfl, rfl⟩ ⟨Nat.le_of_ble_eq_true rfl, Nat.le_of_ble_eq_true rfl⟩ (Nat.le_of_ble_eq_true rfl) ⟨Nat.le_of_ble_eq_true rfl, Nat.le_of_ble_eq_true rfl⟩ dX7_readOne_130 rfl (st := []) (fun x_513906 I_513907 J_513908 h_513909 => ?_)
            obtain ⟨hUI_513907, hFI_513907, hGJ_513908, rx_513906⟩ := h_513909
            have hF_513910 := fq_tr hF_513900 hFI_513907 (by decide)
            have hG_513911 := fq_tr hG_513901 hGJ_513908 (by decide)
            exact g_zret (ty := .boolean) (r := x_513906) B K rfl (nar_z (rx_513906)) ⟨hUI_513907, hF_513910, hG_513911, rx_513906⟩ dX7_readOne_133
          · skip
            have r_513912 := (⟨(eq_rg (h_513904) rc_19).1, (eq_rg (h_513904) rc_19).2⟩ : Rg 19 19 x_513879)
            refine g_aload_n C 1 dX7_readOne_96 rfl rfl ?_
            refine g_aload_n C 2 dX7_readOne_97 rfl rfl ?_
            refine g_aload_n C 3 dX7_readOne_98 rfl rfl ?_
            refine g_iload_n C 4 dX7_readOne_99 rfl rfl ?_
            refine g_iconst C (v := 1) dX7_readOne_100 (by decide) ?_
            obtain ⟨x_513913, hx_513913, rx_513913, tx_513913⟩ := ex_add 5 5 ra2 rc_1 (by decide) (by decide) (by decide) (by decide)
            refine g_iadd C (v := x_513913) dX7_readOne_101 hx_513913 ?_
            refine g_callVI C K (c_X7_readOne_5 W9 hLx hkx hLa0 hka0 hLa1 hka1 x_513913 (rx_513913) hUI_513897) hLx hkx (by decide) rfl v_7_67 rfl ⟨rfl, rfl⟩ ⟨Nat.le_of_ble_eq_true rfl, Nat.le_of_ble_eq_true rfl⟩ (Nat.le_of_ble_eq_true rfl) ⟨Nat.le_of_ble_eq_true rfl, Nat.le_of_ble_eq_true rfl⟩ dX7_readOne_102 rfl (st := []) (fun x_513914 I_513915 J_513916 h_513917 => ?_)
            obtain ⟨hUI_513915, hFI_513915, hGJ_513916, rx_513914⟩ := h_513917
            have hF_513918 := fq_tr hF_513900 hFI_513915 (by decide)
            have hG_513919 := fq_tr hG_513901 hGJ_513916 (by decide)
            refine g_if_eq C (tgt := 123) dX7_readOne_105 (by decide) (fun h_513920 => ?_) (fun h_513920 => ?_)
            · skip
              have r_513921 := (⟨(rx_513914).1, (eq_rg (h_513920) rc_0).2⟩ : Rg 0 0 x_513914)
              refine g_iconst C (v := 0) dX7_readOne_123 (by decide) ?_
              exact g_zret (ty := .boolean) (r := 0) B K rfl (rfl) ⟨hUI_513915, hF_513918, hG_513919, rg_w rc_0 (by decide) (by decide)⟩ dX7_readOne_124
            · skip
              have n_513922 : ¬ x_513914 = 0 := h_513920
              have r_513923 := ne_lo (lo := 1) n_513922 rx_513914 rc_0 rfl (by decide)
              refine g_aload_n C 1 dX7_readOne_108 rfl rfl ?_
              refine g_bipush C (v := 19) dX7_readOne_109 (by decide) ?_
              refine g_iconst C (v := 0) dX7_readOne_111 (by decide) ?_
              refine g_iconst C (v := 0) dX7_readOne_112 (by decide) ?_
              refine g_callVI C K (c_X7_addStep W9 hLx hkx 19 0 0 (rg_w rc_0 (by decide) (by decide)) hUI_513915  (fun q => absurd q (by decide))) hLx hkx (by decide) rfl v_7_63 rfl ⟨rfl, rfl⟩ ⟨Nat.le_of_ble_eq_true rfl, Nat.le_of_ble_eq_true rfl⟩ (Nat.le_of_ble_eq_true rfl) ⟨Nat.le_of_ble_eq_true rfl, Nat.le_of_ble_eq_true rfl⟩ dX7_readOne_113 rfl (st := []) (fun x_513924 I_513925 J_513926 h_513927 => ?_)
              obtain ⟨hUI_513925, hFI_513925, hGJ_513926, rx_513924⟩ := h_513927
              have hF_513928 := fq_tr hF_513918 hFI_513925 (by decide)
              have hG_513929 := fq_tr hG_513919 hGJ_513926 (by decide)
              refine g_if_eq C (tgt := 123) dX7_readOne_116 (by decide) (fun h_513930 => ?_) (fun h_513930 => ?_)
              · skip
                have r_513931 := (⟨(rx_513924).1, (eq_rg (h_513930) rc_0).2⟩ : Rg 0 0 x_513924)
                refine g_iconst C (v := 0) dX7_readOne_123 (by decide) ?_
                exact g_zret (ty := .boolean) (r := 0) B K rfl (rfl) ⟨hUI_513925, hF_513928, hG_513929, rg_w rc_0 (by decide) (by decide)⟩ dX7_readOne_124
              · skip
                have n_513932 : ¬ x_513924 = 0 := h_513930
                have r_513933 := ne_lo (lo := 1) n_513932 rx_513924 rc_0 rfl (by decide)
                refine g_iconst C (v := 1) dX7_readOne_119 (by decide) ?_
                refine g_goto C (tgt := 124) dX7_readOne_120 (by decide) ?_
                exact g_zret (ty := .boolean) (r := 1) B K rfl (rfl) ⟨hUI_513925, hF_513928, hG_513929, rg_w rc_1 (by decide) (by decide)⟩ dX7_readOne_124
        · skip
          have r_513934 := (⟨(eq_rg (h_513902) rc_40).1, (eq_rg (h_513902) rc_40).2⟩ : Rg 40 40 x_513879)
          refine g_aload_n C 1 dX7_readOne_62 rfl rfl ?_
          refine g_aload_n C 2 dX7_readOne_63 rfl rfl ?_
          refine g_aload_n C 3 dX7_readOne_64 rfl rfl ?_
          refine g_iload_n C 4 dX7_readOne_65 rfl rfl ?_
          refine g_iconst C (v := 1) dX7_readOne_66 (by decide) ?_
          obtain ⟨x_513935, hx_513935, rx_513935, tx_513935⟩ := ex_add 5 5 ra2 rc_1 (by decide) (by decide) (by decide) (by decide)
          refine g_iadd C (v := x_513935) dX7_readOne_67 hx_513935 ?_
          refine g_callVI C K (c_X7_readCond_5 W9 hLx hkx hLa0 hka0 hLa1 hka1 x_513935 (rx_513935) hUI_513897) hLx hkx (by decide) rfl v_7_46 rfl ⟨rfl, rfl⟩ ⟨Nat.le_of_ble_eq_true rfl, Nat.le_of_ble_eq_true rfl⟩ (Nat.le_of_ble_eq_true rfl) ⟨Nat.le_of_ble_eq_true rfl, Nat.le_of_ble_eq_true rfl⟩ dX7_readOne_68 rfl (st := []) (fun x_513936 I_513937 J_513938 h_513939 => ?_)
          obtain ⟨hUI_513937, hFI_513937, hGJ_513938, rx_513936⟩ := h_513939
          have hF_513940 := fq_tr hF_513900 hFI_513937 (by decide)
          have hG_513941 := fq_tr hG_513901 hGJ_513938 (by decide)
          refine g_if_eq C (tgt := 87) dX7_readOne_71 (by decide) (fun h_513942 => ?_) (fun h_513942 => ?_)
          · skip
            have r_513943 := (⟨(rx_513936).1, (eq_rg (h_513942) rc_0).2⟩ : Rg 0 0 x_513936)
            refine g_iconst C (v := 0) dX7_readOne_87 (by decide) ?_
            exact g_zret (ty := .boolean) (r := 0) B K rfl (rfl) ⟨hUI_513937, hF_513940, hG_513941, rg_w rc_0 (by decide) (by decide)⟩ dX7_readOne_88
          · skip
            have n_513944 : ¬ x_513936 = 0 := h_513942
            have r_513945 := ne_lo (lo := 1) n_513944 rx_513936 rc_0 rfl (by decide)
            refine g_aload_n C 2 dX7_readOne_74 rfl rfl ?_
            refine g_bipush C (v := 41) dX7_readOne_75 (by decide) ?_
            refine g_callVI C K (c_X10_take W9 hLa0 hka0 41 (rg_w rc_41 (by decide) (by decide)) hUI_513937) hLa0 hka0 (by decide) rfl v_7_50 rfl ⟨rfl, rfl⟩ ⟨Nat.le_of_ble_eq_true rfl, Nat.le_of_ble_eq_true rfl⟩ (Nat.le_of_ble_eq_true rfl) ⟨Nat.le_of_ble_eq_true rfl, Nat.le_of_ble_eq_true rfl⟩ dX7_readOne_77 rfl (st := []) (fun x_513946 I_513947 J_513948 h_513949 => ?_)
            obtain ⟨hUI_513947, hFI_513947, hGJ_513948, rx_513946⟩ := h_513949
            have hF_513950 := fq_tr hF_513940 hFI_513947 (by decide)
            have hG_513951 := fq_tr hG_513941 hGJ_513948 (by decide)
            refine g_if_eq C (tgt := 87) dX7_readOne_80 (by decide) (fun h_513952 => ?_) (fun h_513952 => ?_)
            · skip
              have r_513953 := (⟨(rx_513946).1, (eq_rg (h_513952) rc_0).2⟩ : Rg 0 0 x_513946)
              refine g_iconst C (v := 0) dX7_readOne_87 (by decide) ?_
              exact g_zret (ty := .boolean) (r := 0) B K rfl (rfl) ⟨hUI_513947, hF_513950, hG_513951, rg_w rc_0 (by decide) (by decide)⟩ dX7_readOne_88
            · skip
              have n_513954 : ¬ x_513946 = 0 := h_513952
              have r_513955 := ne_lo (lo := 1) n_513954 rx_513946 rc_0 rfl (by decide)
              refine g_iconst C (v := 1) dX7_readOne_83 (by decide) ?_
              refine g_goto C (tgt := 88) dX7_readOne_84 (by decide) ?_
              exact g_zret (ty := .boolean) (r := 1) B K rfl (rfl) ⟨hUI_513947, hF_513950, hG_513951, rg_w rc_1 (by decide) (by decide)⟩ dX7_readOne_88
      · skip
        have r_513956 := lt_r (lo := 9) (nle h_513891) rc_8 ra2 (by decide)
        exact rg_no r_513956 (by decide)
  · skip
    have r_513957 := (⟨(rx_513880).1, (eq_rg (h_513884) rc_0).2⟩ : Rg 0 0 x_513880)
    refine g_aload_n C 2 dX7_readOne_14 rfl rfl ?_
    refine g_iconst C (v := 1) dX7_readOne_15 (by decide) ?_
    refine g_callVI C K (c_X10_fail W9 hLa0 hka0 1 (rg_w rc_1 (by decide) (by decide)) hU) hLa0 hka0 (by decide) rfl v_7_73 rfl ⟨rfl, rfl⟩ ⟨Nat.le_of_ble_eq_true rfl, Nat.le_of_ble_eq_true rfl⟩ (Nat.le_of_ble_eq_true rfl) ⟨Nat.le_of_ble_eq_true rfl, Nat.le_of_ble_eq_true rfl⟩ dX7_readOne_16 rfl (st := []) (fun x_513958 I_513959 J_513960 h_513961 => ?_)
    obtain ⟨hUI_513959, hFI_513959, hGJ_513960, rx_513958⟩ := h_513961
    have hF_513962 := fq_tr hF hFI_513959 (by decide)
    have hG_513963 := fq_tr hG hGJ_513960 (by decide)
    exact g_zret (ty := .boolean) (r := x_513958) B K rfl (nar_z (rg_w rx_513958 (by decide) (by decide))) ⟨hUI_513959, hF_513962, hG_513963, rg_w rx_513958 (by decide) (by decide)⟩ dX7_readOne_19
set_option maxRecDepth 100000 in
set_option maxHeartbeats 8000000 in
theorem c_X7_readAll_4 {l : Launch} {D : va_G} {cy : Nat → ClassId} {L : List Nat} {κ ln : Nat → Nat} {R : Nat → Nat → Option Nat} {I : Nat → Nat → Int32} {J : Nat → Nat → Int64} {ow : Nat → Nat × Nat} (W9 : ∀ a ∈ L, Shp L κ ln R ow a) {x : Nat} (hLx : x ∈ L) (hkx : κ x = 7) {a0 : Nat} (hLa0 : a0 ∈ L) (hka0 : κ a0 = 10) {a1 : Nat} (hLa1 : a1 ∈ L) (hka1 : κ a1 = 8) (a2 : Int32) (ra2 : Rg 4 4 a2) (hU : Iv L κ R ow I) : CtI l yX7_readAll cX7_readAll 6 (some .boolean) { frames := 17, cells := 0, slots := 0, locals := 415 } D cy L κ ln R I J [.ref x, .ref a0, .ref a1, .int a2] (fun r I2 J2 => Iv L κ R ow I2 ∧ Fq L κ ow [704, 705, 1007, 1008, 1009, 1011, 1012, 52000, 52100, 52200] I I2 ∧ Fq L κ ow [1010] J J2 ∧ Rg 0 1 r) := by
  refine CtI.of (by decide +kernel) (Nat.le_of_ble_eq_true rfl) ?_
  intro p e s m below meth c B K
  have C := B.1
  have hF : Fq L κ ow [704, 705, 1007, 1008, 1009, 1011, 1012, 52000, 52100, 52200] I I := fq_rf
  have hG : Fq L κ ow [1010] J J := fq_rf
  refine g_lo (is := [0, 1, 2, 3]) (lo2 := [(0, .ref x), (1, .ref a0), (2, .ref a1), (3, .int a2)]) rfl ?_
  have l_12 : ∀ (n_12 : Nat) (I_514607 : Nat → Nat → Int32) (J_514608 : Nat → Nat → Int64) (hU_514609 : Iv L κ R ow I_514607) (hF_514610 : Fq L κ ow [704, 705, 1007, 1008, 1009, 1011, 1012, 52000, 52100, 52200] I I_514607) (hG_514611 : Fq L κ ow [1010] J J_514608) (v_514612 : Int32) (rv_514612 : Rg 4 4 v_514612) (v_514613 : Int32) (rv_514613 : Rg 0 1 v_514613) (v_514614 : Int32) (rv_514614 : Rg 0 20 v_514614) (hm_514615 : 20 < (v_514614 : Int32).toInt + (n_12 : Int)), WG p l e { frames := 17, cells := 0, slots := 0, locals := 415 } s m ([.ref x, .ref a0, .ref a1, .int a2] : List Value).toArray below meth c 6 0 0 (MQ below (Qi_ D cy L κ ln R (fun r I2 J2 => Iv L κ R ow I2 ∧ Fq L κ ow [704, 705, 1007, 1008, 1009, 1011, 1012, 52000, 52100, 52200] I I2 ∧ Fq L κ ow [1010] J J2 ∧ Rg 0 1 r)) ([.ref x, .ref a0, .ref a1, .int a2] : List Value).toArray s 0 0 (Al_ L)) D cy (Al_ L) s.heap L κ ln R I_514607 J_514608 12 [(0, .ref x), (1, .ref a0), (2, .ref a1), (3, .int v_514612), (4, .int v_514613), (5, .int v_514614)] [] := by
    intro n_12
    induction n_12 with
    | zero =>
      intro I_514607 J_514608 hU_514609 hF_514610 hG_514611 v_514612 rv_514612 v_514613 rv_514613 v_514614 rv_514614 hm_514615
      exact ms_0 rv_514614 hm_514615
    | succ n_12 ih_12 =>
      intro I_514607 J_514608 hU_514609 hF_514610 hG_514611 v_514612 rv_514612 v_514613 rv_514613 v_514614 rv_514614 hm_514615
      have j_62 : ∀ (I_514616 : Nat → Nat → Int32) (J_514617 : Nat → Nat → Int64) (hU_514618 : Iv L κ R ow I_514616) (hF_514619 : Fq L κ ow [704, 705, 1007, 1008, 1009, 1011, 1012, 52000, 52100, 52200] I I_514616) (hG_514620 : Fq L κ ow [1010] J J_514617) (v_514621 : Int32) (rv_514621 : Rg 4 4 v_514621) (v_514622 : Int32) (rv_514622 : Rg 1 1 v_514622) (nv_514622_0 : ¬ v_514622 = 0) (v_514623 : Int32) (rv_514623 : Rg 0 19 v_514623) (hm_514624 : 20 < (v_514623 : Int32).toInt + ((n_12 + 1 : Nat) : Int)), WG p l e { frames := 17, cells := 0, slots := 0, locals := 415 } s m ([.ref x, .ref a0, .ref a1, .int a2] : List Value).toArray below meth c 6 0 0 (MQ below (Qi_ D cy L κ ln R (fun r I2 J2 => Iv L κ R ow I2 ∧ Fq L κ ow [704, 705, 1007, 1008, 1009, 1011, 1012, 52000, 52100, 52200] I I2 ∧ Fq L κ ow [1010] J J2 ∧ Rg 0 1 r)) ([.ref x, .ref a0, .ref a1, .int a2] : List Value).toArray s 0 0 (Al_ L)) D cy (Al_ L) s.heap L κ ln R I_514616 J_514617 62 [(0, .ref x), (1, .ref a0), (2, .ref a1), (3, .int v_514621), (4, .int v_514622), (5, .int v_514623)] [] := by
        intro I_514616 J_514617 hU_514618 hF_514619 hG_514620 v_514621 rv_514621 v_514622 rv_514622 nv_514622_0 v_514623 rv_514623 hm_514624
        refine g_iconst C (v := 0) dX7_readAll_62 (by decide) ?_
        refine g_istore C dX7_readAll_63 (by decide) (lo2 := [(4, .int 0), (0, .ref x), (1, .ref a0), (2, .ref a1), (3, .int v_514621), (5, .int v_514623)]) rfl ?_
        obtain ⟨x_514625, hx_514625, rx_514625, tx_514625⟩ := ex_add (y := 1) 1 20 rv_514623 rc_1 (by decide) (by decide) (by decide) (by decide)
        refine g_iinc C dX7_readAll_65 (k := 5) (v := x_514625) rfl hx_514625 (by decide) (lo2 := [(5, .int x_514625), (4, .int 0), (0, .ref x), (1, .ref a0), (2, .ref a1), (3, .int v_514621)]) rfl ?_
        refine g_goto C (tgt := 12) dX7_readAll_68 (by decide) ?_
        refine g_lo (is := [2, 3, 4, 5, 1, 0]) (lo2 := [(0, .ref x), (1, .ref a0), (2, .ref a1), (3, .int v_514621), (4, .int 0), (5, .int x_514625)]) rfl ?_
        exact ih_12 I_514616 J_514617 hU_514618 hF_514619 hG_514620 v_514621 (rv_514621) 0 (rg_w rc_0 (by decide) (by decide)) x_514625 (rg_w rx_514625 (by decide) (by decide)) (ms_1 hm_514624 (ti_k tx_514625 rc_1) (by decide))
      refine g_iload C 5 dX7_readAll_12 rfl ?_
      refine g_bipush C (v := 20) dX7_readAll_14 (by decide) ?_
      refine g_icmp_ge C (tgt := 71) dX7_readAll_16 (by decide) (fun h_514626 => ?_) (fun h_514626 => ?_)
      · skip
        have r_514627 := le_r (h_514626) rc_20 rv_514614
        refine g_iload C 4 dX7_readAll_71 rfl ?_
        exact g_zret (ty := .boolean) (r := v_514613) B K rfl (nar_z (rv_514613)) ⟨hU_514609, hF_514610, hG_514611, rv_514613⟩ dX7_readAll_73
      · skip
        have r_514628 := lt_l (hi := 19) (nle h_514626) rv_514614 rc_20 (by decide)
        refine g_iload C 4 dX7_readAll_19 rfl ?_
        refine g_if_eq C (tgt := 71) dX7_readAll_21 (by decide) (fun h_514629 => ?_) (fun h_514629 => ?_)
        · skip
          have r_514630 := (⟨(rv_514613).1, (eq_rg (h_514629) rc_0).2⟩ : Rg 0 0 v_514613)
          refine g_iload C 4 dX7_readAll_71 rfl ?_
          exact g_zret (ty := .boolean) (r := v_514613) B K rfl (nar_z (rg_w r_514630 (by decide) (by decide))) ⟨hU_514609, hF_514610, hG_514611, rg_w r_514630 (by decide) (by decide)⟩ dX7_readAll_73
        · skip
          have n_514631 : ¬ v_514613 = 0 := h_514629
          have r_514632 := ne_lo (lo := 1) n_514631 rv_514613 rc_0 rfl (by decide)
          refine g_aload_n C 1 dX7_readAll_24 rfl rfl ?_
          obtain ⟨x_514633, hx_514633, rx_514633⟩ := ex_get (I := I_514607) (a := a0) (j := 8) (lo := (-2147483648)) (hi := 2147483647) hU_514609.1 hLa0 (ro_o hka0 (by decide)) rfl
          refine g_getI C K hLa0 hka0 f_7_57 (v := x_514633) hx_514633 dX7_readAll_25 ?_
          refine g_bipush C (v := 18) dX7_readAll_28 (by decide) ?_
          refine g_icmp_ne C (tgt := 71) dX7_readAll_30 (by decide) (fun h_514634 => ?_) (fun h_514634 => ?_)
          · skip
            have n_514635 : ¬ x_514633 = 18 := h_514634
            refine g_iload C 4 dX7_readAll_71 rfl ?_
            exact g_zret (ty := .boolean) (r := v_514613) B K rfl (nar_z (rg_w r_514632 (by decide) (by decide))) ⟨hU_514609, hF_514610, hG_514611, rg_w r_514632 (by decide) (by decide)⟩ dX7_readAll_73
          · skip
            have r_514636 := (⟨(eq_rg (h_514634) rc_18).1, (eq_rg (h_514634) rc_18).2⟩ : Rg 18 18 x_514633)
            refine g_aload_n C 1 dX7_readAll_33 rfl rfl ?_
            refine g_callVV C K (c_X10_advance W9 hLa0 hka0   hU_514609) hLa0 hka0 (by decide) rfl v_7_60 rfl ⟨rfl, rfl⟩ ⟨Nat.le_of_ble_eq_true rfl, Nat.le_of_ble_eq_true rfl⟩ (Nat.le_of_ble_eq_true rfl) ⟨Nat.le_of_ble_eq_true rfl, Nat.le_of_ble_eq_true rfl⟩ dX7_readAll_34 rfl (st := []) (fun I_514638 J_514639 h_514640 => ?_)
            obtain ⟨hUI_514638, hFI_514638, hGJ_514639⟩ := h_514640
            have hF_514641 := fq_tr hF_514610 hFI_514638 (by decide)
            have hG_514642 := fq_tr hG_514611 hGJ_514639 (by decide)
            refine g_aload_n C 0 dX7_readAll_37 rfl rfl ?_
            refine g_aload_n C 1 dX7_readAll_38 rfl rfl ?_
            refine g_aload_n C 2 dX7_readAll_39 rfl rfl ?_
            refine g_iload_n C 3 dX7_readAll_40 rfl rfl ?_
            refine g_callVI C K (c_X7_readOne_4 W9 hLx hkx hLa0 hka0 hLa1 hka1 v_514612 (rv_514612) hUI_514638) hLx hkx (by decide) rfl v_7_67 rfl ⟨rfl, rfl⟩ ⟨Nat.le_of_ble_eq_true rfl, Nat.le_of_ble_eq_true rfl⟩ (Nat.le_of_ble_eq_true rfl) ⟨Nat.le_of_ble_eq_true rfl, Nat.le_of_ble_eq_true rfl⟩ dX7_readAll_41 rfl (st := []) (fun x_514643 I_514644 J_514645 h_514646 => ?_)
            obtain ⟨hUI_514644, hFI_514644, hGJ_514645, rx_514643⟩ := h_514646
            have hF_514647 := fq_tr hF_514641 hFI_514644 (by decide)
            have hG_514648 := fq_tr hG_514642 hGJ_514645 (by decide)
            refine g_if_eq C (tgt := 62) dX7_readAll_44 (by decide) (fun h_514649 => ?_) (fun h_514649 => ?_)
            · skip
              have r_514650 := (⟨(rx_514643).1, (eq_rg (h_514649) rc_0).2⟩ : Rg 0 0 x_514643)
              refine g_lo (is := [0, 1, 2, 3, 4, 5]) (lo2 := [(0, .ref x), (1, .ref a0), (2, .ref a1), (3, .int v_514612), (4, .int v_514613), (5, .int v_514614)]) rfl ?_
              exact j_62 I_514644 J_514645 hUI_514644 hF_514647 hG_514648 v_514612 (rv_514612) v_514613 (r_514632) (n_514631) v_514614 (r_514628) hm_514615
            · skip
              have n_514651 : ¬ x_514643 = 0 := h_514649
              have r_514652 := ne_lo (lo := 1) n_514651 rx_514643 rc_0 rfl (by decide)
              refine g_aload_n C 0 dX7_readAll_47 rfl rfl ?_
              refine g_bipush C (v := 18) dX7_readAll_48 (by decide) ?_
              refine g_iconst C (v := 0) dX7_readAll_50 (by decide) ?_
              refine g_iconst C (v := 0) dX7_readAll_51 (by decide) ?_
              refine g_callVI C K (c_X7_addStep W9 hLx hkx 18 0 0 (rg_w rc_0 (by decide) (by decide)) hUI_514644  (fun q => absurd q (by decide))) hLx hkx (by decide) rfl v_7_63 rfl ⟨rfl, rfl⟩ ⟨Nat.le_of_ble_eq_true rfl, Nat.le_of_ble_eq_true rfl⟩ (Nat.le_of_ble_eq_true rfl) ⟨Nat.le_of_ble_eq_true rfl, Nat.le_of_ble_eq_true rfl⟩ dX7_readAll_52 rfl (st := []) (fun x_514653 I_514654 J_514655 h_514656 => ?_)
              obtain ⟨hUI_514654, hFI_514654, hGJ_514655, rx_514653⟩ := h_514656
              have hF_514657 := fq_tr hF_514647 hFI_514654 (by decide)
              have hG_514658 := fq_tr hG_514648 hGJ_514655 (by decide)
              refine g_if_eq C (tgt := 62) dX7_readAll_55 (by decide) (fun h_514659 => ?_) (fun h_514659 => ?_)
              · skip
                have r_514660 := (⟨(rx_514653).1, (eq_rg (h_514659) rc_0).2⟩ : Rg 0 0 x_514653)
                refine g_lo (is := [0, 1, 2, 3, 4, 5]) (lo2 := [(0, .ref x), (1, .ref a0), (2, .ref a1), (3, .int v_514612), (4, .int v_514613), (5, .int v_514614)]) rfl ?_
                exact j_62 I_514654 J_514655 hUI_514654 hF_514657 hG_514658 v_514612 (rv_514612) v_514613 (r_514632) (n_514631) v_514614 (r_514628) hm_514615
              · skip
                have n_514661 : ¬ x_514653 = 0 := h_514659
                have r_514662 := ne_lo (lo := 1) n_514661 rx_514653 rc_0 rfl (by decide)
                refine g_iconst C (v := 1) dX7_readAll_58 (by decide) ?_
                refine g_goto C (tgt := 63) dX7_readAll_59 (by decide) ?_
                refine g_istore C dX7_readAll_63 (by decide) (lo2 := [(4, .int 1), (0, .ref x), (1, .ref a0), (2, .ref a1), (3, .int v_514612), (5, .int v_514614)]) rfl ?_
                obtain ⟨x_514663, hx_514663, rx_514663, tx_514663⟩ := ex_add (y := 1) 1 20 r_514628 rc_1 (by decide) (by decide) (by decide) (by decide)
                refine g_iinc C dX7_readAll_65 (k := 5) (v := x_514663) rfl hx_514663 (by decide) (lo2 := [(5, .int x_514663), (4, .int 1), (0, .ref x), (1, .ref a0), (2, .ref a1), (3, .int v_514612)]) rfl ?_
                refine g_goto C (tgt := 12) dX7_readAll_68 (by decide) ?_
                refine g_lo (is := [2, 3, 4, 5, 1, 0]) (lo2 := [(0, .ref x), (1, .ref a0), (2, .ref a1), (3, .int v_514612), (4, .int 1), (5, .int x_514663)]) rfl ?_
                exact ih_12 I_514654 J_514655 hUI_514654 hF_514657 hG_514658 v_514612 (rv_514612) 1 (rg_w rc_1 (by decide) (by decide)) x_514663 (rg_w rx_514663 (by decide) (by decide)) (ms_1 hm_514615 (ti_k tx_514663 rc_1) (by decide))
  refine g_aload_n C 0 dX7_readAll_0 rfl rfl ?_
  refine g_aload_n C 1 dX7_readAll_1 rfl rfl ?_
  refine g_aload_n C 2 dX7_readAll_2 rfl rfl ?_
  refine g_iload_n C 3 dX7_readAll_3 rfl rfl ?_
  refine g_callVI C K (c_X7_readOne_4 W9 hLx hkx hLa0 hka0 hLa1 hka1 a2 (ra2) hU) hLx hkx (by decide) rfl v_7_67 rfl ⟨rfl, rfl⟩ ⟨Nat.le_of_ble_eq_true rfl, Nat.le_of_ble_eq_true rfl⟩ (Nat.le_of_ble_eq_true rfl) ⟨Nat.le_of_ble_eq_true rfl, Nat.le_of_ble_eq_true rfl⟩ dX7_readAll_4 rfl (st := []) (fun x_514664 I_514665 J_514666 h_514667 => ?_)
  obtain ⟨hUI_514665, hFI_514665, hGJ_514666, rx_514664⟩ := h_514667
  have hF_514668 := fq_tr hF hFI_514665 (by decide)
  have hG_514669 := fq_tr hG hGJ_514666 (by decide)
  refine g_istore C dX7_readAll_7 (by decide) (lo2 := [(4, .int x_514664), (0, .ref x), (1, .ref a0), (2, .ref a1), (3, .int a2)]) rfl ?_
  refine g_iconst C (v := 0) dX7_readAll_9 (by decide) ?_
  refine g_istore C dX7_readAll_10 (by decide) (lo2 := [(5, .int 0), (4, .int x_514664), (0, .ref x), (1, .ref a0), (2, .ref a1), (3, .int a2)]) rfl ?_
  refine g_lo (is := [2, 3, 4, 5, 1, 0]) (lo2 := [(0, .ref x), (1, .ref a0), (2, .ref a1), (3, .int a2), (4, .int x_514664), (5, .int 0)]) rfl ?_
  exact l_12 21 I_514665 J_514666 hUI_514665 hF_514668 hG_514669 a2 (ra2) x_514664 (rx_514664) 0 (rg_w rc_0 (by decide) (by decide)) (ms_s (a := 0) (b := 20) (N := 21) (rg_w rc_0 (by decide) (by decide)) (by decide))
set_option maxRecDepth 100000 in
set_option maxHeartbeats 8000000 in
theorem c_X7_readCond_4 {l : Launch} {D : va_G} {cy : Nat → ClassId} {L : List Nat} {κ ln : Nat → Nat} {R : Nat → Nat → Option Nat} {I : Nat → Nat → Int32} {J : Nat → Nat → Int64} {ow : Nat → Nat × Nat} (W9 : ∀ a ∈ L, Shp L κ ln R ow a) {x : Nat} (hLx : x ∈ L) (hkx : κ x = 7) {a0 : Nat} (hLa0 : a0 ∈ L) (hka0 : κ a0 = 10) {a1 : Nat} (hLa1 : a1 ∈ L) (hka1 : κ a1 = 8) (a2 : Int32) (ra2 : Rg 4 4 a2) (hU : Iv L κ R ow I) : CtI l yX7_readCond cX7_readCond 6 (some .boolean) { frames := 18, cells := 0, slots := 0, locals := 440 } D cy L κ ln R I J [.ref x, .ref a0, .ref a1, .int a2] (fun r I2 J2 => Iv L κ R ow I2 ∧ Fq L κ ow [704, 705, 1007, 1008, 1009, 1011, 1012, 52000, 52100, 52200] I I2 ∧ Fq L κ ow [1010] J J2 ∧ Rg 0 1 r) := by
  refine CtI.of (by decide +kernel) (Nat.le_of_ble_eq_true rfl) ?_
  intro p e s m below meth c B K
  have C := B.1
  have hF : Fq L κ ow [704, 705, 1007, 1008, 1009, 1011, 1012, 52000, 52100, 52200] I I := fq_rf
  have hG : Fq L κ ow [1010] J J := fq_rf
  refine g_lo (is := [0, 1, 2, 3]) (lo2 := [(0, .ref x), (1, .ref a0), (2, .ref a1), (3, .int a2)]) rfl ?_
  have l_12 : ∀ (n_12 : Nat) (I_515350 : Nat → Nat → Int32) (J_515351 : Nat → Nat → Int64) (hU_515352 : Iv L κ R ow I_515350) (hF_515353 : Fq L κ ow [704, 705, 1007, 1008, 1009, 1011, 1012, 52000, 52100, 52200] I I_515350) (hG_515354 : Fq L κ ow [1010] J J_515351) (v_515355 : Int32) (rv_515355 : Rg 4 4 v_515355) (v_515356 : Int32) (rv_515356 : Rg 0 1 v_515356) (v_515357 : Int32) (rv_515357 : Rg 0 20 v_515357) (hm_515358 : 20 < (v_515357 : Int32).toInt + (n_12 : Int)), WG p l e { frames := 18, cells := 0, slots := 0, locals := 440 } s m ([.ref x, .ref a0, .ref a1, .int a2] : List Value).toArray below meth c 6 0 0 (MQ below (Qi_ D cy L κ ln R (fun r I2 J2 => Iv L κ R ow I2 ∧ Fq L κ ow [704, 705, 1007, 1008, 1009, 1011, 1012, 52000, 52100, 52200] I I2 ∧ Fq L κ ow [1010] J J2 ∧ Rg 0 1 r)) ([.ref x, .ref a0, .ref a1, .int a2] : List Value).toArray s 0 0 (Al_ L)) D cy (Al_ L) s.heap L κ ln R I_515350 J_515351 12 [(0, .ref x), (1, .ref a0), (2, .ref a1), (3, .int v_515355), (4, .int v_515356), (5, .int v_515357)] [] := by
    intro n_12
    induction n_12 with
    | zero =>
      intro I_515350 J_515351 hU_515352 hF_515353 hG_515354 v_515355 rv_515355 v_515356 rv_515356 v_515357 rv_515357 hm_515358
      exact ms_0 rv_515357 hm_515358
    | succ n_12 ih_12 =>
      intro I_515350 J_515351 hU_515352 hF_515353 hG_515354 v_515355 rv_515355 v_515356 rv_515356 v_515357 rv_515357 hm_515358
      have j_62 : ∀ (I_515359 : Nat → Nat → Int32) (J_515360 : Nat → Nat → Int64) (hU_515361 : Iv L κ R ow I_515359) (hF_515362 : Fq L κ ow [704, 705, 1007, 1008, 1009, 1011, 1012, 52000, 52100, 52200] I I_515359) (hG_515363 : Fq L κ ow [1010] J J_515360) (v_515364 : Int32) (rv_515364 : Rg 4 4 v_515364) (v_515365 : Int32) (rv_515365 : Rg 1 1 v_515365) (nv_515365_0 : ¬ v_515365 = 0) (v_515366 : Int32) (rv_515366 : Rg 0 19 v_515366) (hm_515367 : 20 < (v_515366 : Int32).toInt + ((n_12 + 1 : Nat) : Int)), WG p l e { frames := 18, cells := 0, slots := 0, locals := 440 } s m ([.ref x, .ref a0, .ref a1, .int a2] : List Value).toArray below meth c 6 0 0 (MQ below (Qi_ D cy L κ ln R (fun r I2 J2 => Iv L κ R ow I2 ∧ Fq L κ ow [704, 705, 1007, 1008, 1009, 1011, 1012, 52000, 52100, 52200] I I2 ∧ Fq L κ ow [1010] J J2 ∧ Rg 0 1 r)) ([.ref x, .ref a0, .ref a1, .int a2] : List Value).toArray s 0 0 (Al_ L)) D cy (Al_ L) s.heap L κ ln R I_515359 J_515360 62 [(0, .ref x), (1, .ref a0), (2, .ref a1), (3, .int v_515364), (4, .int v_515365), (5, .int v_515366)] [] := by
        intro I_515359 J_515360 hU_515361 hF_515362 hG_515363 v_515364 rv_515364 v_515365 rv_515365 nv_515365_0 v_515366 rv_515366 hm_515367
        refine g_iconst C (v := 0) dX7_readCond_62 (by decide) ?_
        refine g_istore C dX7_readCond_63 (by decide) (lo2 := [(4, .int 0), (0, .ref x), (1, .ref a0), (2, .ref a1), (3, .int v_515364), (5, .int v_515366)]) rfl ?_
        obtain ⟨x_515368, hx_515368, rx_515368, tx_515368⟩ := ex_add (y := 1) 1 20 rv_515366 rc_1 (by decide) (by decide) (by decide) (by decide)
        refine g_iinc C dX7_readCond_65 (k := 5) (v := x_515368) rfl hx_515368 (by decide) (lo2 := [(5, .int x_515368), (4, .int 0), (0, .ref x), (1, .ref a0), (2, .ref a1), (3, .int v_515364)]) rfl ?_
        refine g_goto C (tgt := 12) dX7_readCond_68 (by decide) ?_
        refine g_lo (is := [2, 3, 4, 5, 1, 0]) (lo2 := [(0, .ref x), (1, .ref a0), (2, .ref a1), (3, .int v_515364), (4, .int 0), (5, .int x_515368)]) rfl ?_
        exact ih_12 I_515359 J_515360 hU_515361 hF_515362 hG_515363 v_515364 (rv_515364) 0 (rg_w rc_0 (by decide) (by decide)) x_515368 (rg_w rx_515368 (by decide) (by decide)) (ms_1 hm_515367 (ti_k tx_515368 rc_1) (by decide))
      refine g_iload C 5 dX7_readCond_12 rfl ?_
      refine g_bipush C (v := 20) dX7_readCond_14 (by decide) ?_
      refine g_icmp_ge C (tgt := 71) dX7_readCond_16 (by decide) (fun h_515369 => ?_) (fun h_515369 => ?_)
      · skip
        have r_515370 := le_r (h_515369) rc_20 rv_515357
        refine g_iload C 4 dX7_readCond_71 rfl ?_
        exact g_zret (ty := .boolean) (r := v_515356) B K rfl (nar_z (rv_515356)) ⟨hU_515352, hF_515353, hG_515354, rv_515356⟩ dX7_readCond_73
      · skip
        have r_515371 := lt_l (hi := 19) (nle h_515369) rv_515357 rc_20 (by decide)
        refine g_iload C 4 dX7_readCond_19 rfl ?_
        refine g_if_eq C (tgt := 71) dX7_readCond_21 (by decide) (fun h_515372 => ?_) (fun h_515372 => ?_)
        · skip
          have r_515373 := (⟨(rv_515356).1, (eq_rg (h_515372) rc_0).2⟩ : Rg 0 0 v_515356)
          refine g_iload C 4 dX7_readCond_71 rfl ?_
          exact g_zret (ty := .boolean) (r := v_515356) B K rfl (nar_z (rg_w r_515373 (by decide) (by decide))) ⟨hU_515352, hF_515353, hG_515354, rg_w r_515373 (by decide) (by decide)⟩ dX7_readCond_73
        · skip
          have n_515374 : ¬ v_515356 = 0 := h_515372
          have r_515375 := ne_lo (lo := 1) n_515374 rv_515356 rc_0 rfl (by decide)
          refine g_aload_n C 1 dX7_readCond_24 rfl rfl ?_
          obtain ⟨x_515376, hx_515376, rx_515376⟩ := ex_get (I := I_515350) (a := a0) (j := 8) (lo := (-2147483648)) (hi := 2147483647) hU_515352.1 hLa0 (ro_o hka0 (by decide)) rfl
          refine g_getI C K hLa0 hka0 f_7_57 (v := x_515376) hx_515376 dX7_readCond_25 ?_
          refine g_bipush C (v := 17) dX7_readCond_28 (by decide) ?_
          refine g_icmp_ne C (tgt := 71) dX7_readCond_30 (by decide) (fun h_515377 => ?_) (fun h_515377 => ?_)
          · skip
            have n_515378 : ¬ x_515376 = 17 := h_515377
            refine g_iload C 4 dX7_readCond_71 rfl ?_
            exact g_zret (ty := .boolean) (r := v_515356) B K rfl (nar_z (rg_w r_515375 (by decide) (by decide))) ⟨hU_515352, hF_515353, hG_515354, rg_w r_515375 (by decide) (by decide)⟩ dX7_readCond_73
          · skip
            have r_515379 := (⟨(eq_rg (h_515377) rc_17).1, (eq_rg (h_515377) rc_17).2⟩ : Rg 17 17 x_515376)
            refine g_aload_n C 1 dX7_readCond_33 rfl rfl ?_
            refine g_callVV C K (c_X10_advance W9 hLa0 hka0   hU_515352) hLa0 hka0 (by decide) rfl v_7_60 rfl ⟨rfl, rfl⟩ ⟨Nat.le_of_ble_eq_true rfl, Nat.le_of_ble_eq_true rfl⟩ (Nat.le_of_ble_eq_true rfl) ⟨Nat.le_of_ble_eq_true rfl, Nat.le_of_ble_eq_true rfl⟩ dX7_readCond_34 rfl (st := []) (fun I_515381 J_515382 h_515383 => ?_)
            obtain ⟨hUI_515381, hFI_515381, hGJ_515382⟩ := h_515383
            have hF_515384 := fq_tr hF_515353 hFI_515381 (by decide)
            have hG_515385 := fq_tr hG_515354 hGJ_515382 (by decide)
            refine g_aload_n C 0 dX7_readCond_37 rfl rfl ?_
            refine g_aload_n C 1 dX7_readCond_38 rfl rfl ?_
            refine g_aload_n C 2 dX7_readCond_39 rfl rfl ?_
            refine g_iload_n C 3 dX7_readCond_40 rfl rfl ?_
            refine g_callVI C K (c_X7_readAll_4 W9 hLx hkx hLa0 hka0 hLa1 hka1 v_515355 (rv_515355) hUI_515381) hLx hkx (by decide) rfl v_7_54 rfl ⟨rfl, rfl⟩ ⟨Nat.le_of_ble_eq_true rfl, Nat.le_of_ble_eq_true rfl⟩ (Nat.le_of_ble_eq_true rfl) ⟨Nat.le_of_ble_eq_true rfl, Nat.le_of_ble_eq_true rfl⟩ dX7_readCond_41 rfl (st := []) (fun x_515386 I_515387 J_515388 h_515389 => ?_)
            obtain ⟨hUI_515387, hFI_515387, hGJ_515388, rx_515386⟩ := h_515389
            have hF_515390 := fq_tr hF_515384 hFI_515387 (by decide)
            have hG_515391 := fq_tr hG_515385 hGJ_515388 (by decide)
            refine g_if_eq C (tgt := 62) dX7_readCond_44 (by decide) (fun h_515392 => ?_) (fun h_515392 => ?_)
            · skip
              have r_515393 := (⟨(rx_515386).1, (eq_rg (h_515392) rc_0).2⟩ : Rg 0 0 x_515386)
              refine g_lo (is := [0, 1, 2, 3, 4, 5]) (lo2 := [(0, .ref x), (1, .ref a0), (2, .ref a1), (3, .int v_515355), (4, .int v_515356), (5, .int v_515357)]) rfl ?_
              exact j_62 I_515387 J_515388 hUI_515387 hF_515390 hG_515391 v_515355 (rv_515355) v_515356 (r_515375) (n_515374) v_515357 (r_515371) hm_515358
            · skip
              have n_515394 : ¬ x_515386 = 0 := h_515392
              have r_515395 := ne_lo (lo := 1) n_515394 rx_515386 rc_0 rfl (by decide)
              refine g_aload_n C 0 dX7_readCond_47 rfl rfl ?_
              refine g_bipush C (v := 17) dX7_readCond_48 (by decide) ?_
              refine g_iconst C (v := 0) dX7_readCond_50 (by decide) ?_
              refine g_iconst C (v := 0) dX7_readCond_51 (by decide) ?_
              refine g_callVI C K (c_X7_addStep W9 hLx hkx 17 0 0 (rg_w rc_0 (by decide) (by decide)) hUI_515387  (fun q => absurd q (by decide))) hLx hkx (by decide) rfl v_7_63 rfl ⟨rfl, rfl⟩ ⟨Nat.le_of_ble_eq_true rfl, Nat.le_of_ble_eq_true rfl⟩ (Nat.le_of_ble_eq_true rfl) ⟨Nat.le_of_ble_eq_true rfl, Nat.le_of_ble_eq_true rfl⟩ dX7_readCond_52 rfl (st := []) (fun x_515396 I_515397 J_515398 h_515399 => ?_)
              obtain ⟨hUI_515397, hFI_515397, hGJ_515398, rx_515396⟩ := h_515399
              have hF_515400 := fq_tr hF_515390 hFI_515397 (by decide)
              have hG_515401 := fq_tr hG_515391 hGJ_515398 (by decide)
              refine g_if_eq C (tgt := 62) dX7_readCond_55 (by decide) (fun h_515402 => ?_) (fun h_515402 => ?_)
              · skip
                have r_515403 := (⟨(rx_515396).1, (eq_rg (h_515402) rc_0).2⟩ : Rg 0 0 x_515396)
                refine g_lo (is := [0, 1, 2, 3, 4, 5]) (lo2 := [(0, .ref x), (1, .ref a0), (2, .ref a1), (3, .int v_515355), (4, .int v_515356), (5, .int v_515357)]) rfl ?_
                exact j_62 I_515397 J_515398 hUI_515397 hF_515400 hG_515401 v_515355 (rv_515355) v_515356 (r_515375) (n_515374) v_515357 (r_515371) hm_515358
              · skip
                have n_515404 : ¬ x_515396 = 0 := h_515402
                have r_515405 := ne_lo (lo := 1) n_515404 rx_515396 rc_0 rfl (by decide)
                refine g_iconst C (v := 1) dX7_readCond_58 (by decide) ?_
                refine g_goto C (tgt := 63) dX7_readCond_59 (by decide) ?_
                refine g_istore C dX7_readCond_63 (by decide) (lo2 := [(4, .int 1), (0, .ref x), (1, .ref a0), (2, .ref a1), (3, .int v_515355), (5, .int v_515357)]) rfl ?_
                obtain ⟨x_515406, hx_515406, rx_515406, tx_515406⟩ := ex_add (y := 1) 1 20 r_515371 rc_1 (by decide) (by decide) (by decide) (by decide)
                refine g_iinc C dX7_readCond_65 (k := 5) (v := x_515406) rfl hx_515406 (by decide) (lo2 := [(5, .int x_515406), (4, .int 1), (0, .ref x), (1, .ref a0), (2, .ref a1), (3, .int v_515355)]) rfl ?_
                refine g_goto C (tgt := 12) dX7_readCond_68 (by decide) ?_
                refine g_lo (is := [2, 3, 4, 5, 1, 0]) (lo2 := [(0, .ref x), (1, .ref a0), (2, .ref a1), (3, .int v_515355), (4, .int 1), (5, .int x_515406)]) rfl ?_
                exact ih_12 I_515397 J_515398 hUI_515397 hF_515400 hG_515401 v_515355 (rv_515355) 1 (rg_w rc_1 (by decide) (by decide)) x_515406 (rg_w rx_515406 (by decide) (by decide)) (ms_1 hm_515358 (ti_k tx_515406 rc_1) (by decide))
  refine g_aload_n C 0 dX7_readCond_0 rfl rfl ?_
  refine g_aload_n C 1 dX7_readCond_1 rfl rfl ?_
  refine g_aload_n C 2 dX7_readCond_2 rfl rfl ?_
  refine g_iload_n C 3 dX7_readCond_3 rfl rfl ?_
  refine g_callVI C K (c_X7_readAll_4 W9 hLx hkx hLa0 hka0 hLa1 hka1 a2 (ra2) hU) hLx hkx (by decide) rfl v_7_54 rfl ⟨rfl, rfl⟩ ⟨Nat.le_of_ble_eq_true rfl, Nat.le_of_ble_eq_true rfl⟩ (Nat.le_of_ble_eq_true rfl) ⟨Nat.le_of_ble_eq_true rfl, Nat.le_of_ble_eq_true rfl⟩ dX7_readCond_4 rfl (st := []) (fun x_515407 I_515408 J_515409 h_515410 => ?_)
  obtain ⟨hUI_515408, hFI_515408, hGJ_515409, rx_515407⟩ := h_515410
  have hF_515411 := fq_tr hF hFI_515408 (by decide)
  have hG_515412 := fq_tr hG hGJ_515409 (by decide)
  refine g_istore C dX7_readCond_7 (by decide) (lo2 := [(4, .int x_515407), (0, .ref x), (1, .ref a0), (2, .ref a1), (3, .int a2)]) rfl ?_
  refine g_iconst C (v := 0) dX7_readCond_9 (by decide) ?_
  refine g_istore C dX7_readCond_10 (by decide) (lo2 := [(5, .int 0), (4, .int x_515407), (0, .ref x), (1, .ref a0), (2, .ref a1), (3, .int a2)]) rfl ?_
  refine g_lo (is := [2, 3, 4, 5, 1, 0]) (lo2 := [(0, .ref x), (1, .ref a0), (2, .ref a1), (3, .int a2), (4, .int x_515407), (5, .int 0)]) rfl ?_
  exact l_12 21 I_515408 J_515409 hUI_515408 hF_515411 hG_515412 a2 (ra2) x_515407 (rx_515407) 0 (rg_w rc_0 (by decide) (by decide)) (ms_s (a := 0) (b := 20) (N := 21) (rg_w rc_0 (by decide) (by decide)) (by decide))
set_option maxRecDepth 100000 in
set_option maxHeartbeats 8000000 in
theorem c_X7_readOne_3 {l : Launch} {D : va_G} {cy : Nat → ClassId} {L : List Nat} {κ ln : Nat → Nat} {R : Nat → Nat → Option Nat} {I : Nat → Nat → Int32} {J : Nat → Nat → Int64} {ow : Nat → Nat × Nat} (W9 : ∀ a ∈ L, Shp L κ ln R ow a) {x : Nat} (hLx : x ∈ L) (hkx : κ x = 7) {a0 : Nat} (hLa0 : a0 ∈ L) (hka0 : κ a0 = 10) {a1 : Nat} (hLa1 : a1 ∈ L) (hka1 : κ a1 = 8) (a2 : Int32) (ra2 : Rg 3 3 a2) (hU : Iv L κ R ow I) : CtI l yX7_readOne cX7_readOne 5 (some .boolean) { frames := 19, cells := 0, slots := 0, locals := 465 } D cy L κ ln R I J [.ref x, .ref a0, .ref a1, .int a2] (fun r I2 J2 => Iv L κ R ow I2 ∧ Fq L κ ow [704, 705, 1007, 1008, 1009, 1011, 1012, 52000, 52100, 52200] I I2 ∧ Fq L κ ow [1010] J J2 ∧ Rg 0 1 r) := by
  refine CtI.of (by decide +kernel) (Nat.le_of_ble_eq_true rfl) ?_
  intro p e s m below meth c B K
  have C := B.1
  have hF : Fq L κ ow [704, 705, 1007, 1008, 1009, 1011, 1012, 52000, 52100, 52200] I I := fq_rf
  have hG : Fq L κ ow [1010] J J := fq_rf
  refine g_lo (is := [0, 1, 2, 3]) (lo2 := [(0, .ref x), (1, .ref a0), (2, .ref a1), (3, .int a2)]) rfl ?_
  have j_35 : ∀ (I_515595 : Nat → Nat → Int32) (J_515596 : Nat → Nat → Int64) (hU_515597 : Iv L κ R ow I_515595) (hF_515598 : Fq L κ ow [704, 705, 1007, 1008, 1009, 1011, 1012, 52000, 52100, 52200] I I_515595) (hG_515599 : Fq L κ ow [1010] J J_515596) (v_515600 : Int32) (rv_515600 : Rg 3 3 v_515600) (v_515601 : Int32) (v_515602 : Int32) (rv_515602 : Rg 20 2147483647 v_515602) (q_515603 : I_515595 a0 8 = v_515601) (q_515604 : I_515595 x 5 = v_515602), WG p l e { frames := 19, cells := 0, slots := 0, locals := 465 } s m ([.ref x, .ref a0, .ref a1, .int a2] : List Value).toArray below meth c 5 0 0 (MQ below (Qi_ D cy L κ ln R (fun r I2 J2 => Iv L κ R ow I2 ∧ Fq L κ ow [704, 705, 1007, 1008, 1009, 1011, 1012, 52000, 52100, 52200] I I2 ∧ Fq L κ ow [1010] J J2 ∧ Rg 0 1 r)) ([.ref x, .ref a0, .ref a1, .int a2] : List Value).toArray s 0 0 (Al_ L)) D cy (Al_ L) s.heap L κ ln R I_515595 J_515596 35 [(0, .ref x), (1, .ref a0), (2, .ref a1), (3, .int v_515600), (4, .int v_515601)] [] := by
    intro I_515595 J_515596 hU_515597 hF_515598 hG_515599 v_515600 rv_515600 v_515601 v_515602 rv_515602 q_515603 q_515604
    refine g_aload_n C 1 dX7_readOne_35 rfl rfl ?_
    refine g_iconst C (v := 4) dX7_readOne_36 (by decide) ?_
    refine g_callVI C K (c_X10_fail W9 hLa0 hka0 4 (rg_w rc_4 (by decide) (by decide)) hU_515597) hLa0 hka0 (by decide) rfl v_7_73 rfl ⟨rfl, rfl⟩ ⟨Nat.le_of_ble_eq_true rfl, Nat.le_of_ble_eq_true rfl⟩ (Nat.le_of_ble_eq_true rfl) ⟨Nat.le_of_ble_eq_true rfl, Nat.le_of_ble_eq_true rfl⟩ dX7_readOne_37 rfl (st := []) (fun x_515605 I_515606 J_515607 h_515608 => ?_)
    obtain ⟨hUI_515606, hFI_515606, hGJ_515607, rx_515605⟩ := h_515608
    have hF_515609 := fq_tr hF_515598 hFI_515606 (by decide)
    have hG_515610 := fq_tr hG_515599 hGJ_515607 (by decide)
    exact g_zret (ty := .boolean) (r := x_515605) B K rfl (nar_z (rg_w rx_515605 (by decide) (by decide))) ⟨hUI_515606, hF_515609, hG_515610, rg_w rx_515605 (by decide) (by decide)⟩ dX7_readOne_40
  refine g_aload_n C 1 dX7_readOne_0 rfl rfl ?_
  obtain ⟨x_515611, hx_515611, rx_515611⟩ := ex_get (I := I) (a := a0) (j := 8) (lo := (-2147483648)) (hi := 2147483647) hU.1 hLa0 (ro_o hka0 (by decide)) rfl
  refine g_getI C K hLa0 hka0 f_7_57 (v := x_515611) hx_515611 dX7_readOne_1 ?_
  refine g_istore C dX7_readOne_4 (by decide) (lo2 := [(4, .int x_515611), (0, .ref x), (1, .ref a0), (2, .ref a1), (3, .int a2)]) rfl ?_
  refine g_iload C 0 dX7_readOne_6 rfl ?_
  refine g_callSI C K (c_X7_beginsOne W9 x_515611  hU) s_7_70 rfl ⟨rfl, rfl⟩ ⟨Nat.le_of_ble_eq_true rfl, Nat.le_of_ble_eq_true rfl⟩ (Nat.le_of_ble_eq_true rfl) ⟨Nat.le_of_ble_eq_true rfl, Nat.le_of_ble_eq_true rfl⟩ dX7_readOne_8 rfl (st := []) (fun x_515612 I_515613 J_515614 h_515615 => ?_)
  obtain ⟨rfl, rfl, rx_515612⟩ := h_515615
  refine g_if_ne C (tgt := 20) dX7_readOne_11 (by decide) (fun h_515616 => ?_) (fun h_515616 => ?_)
  · skip
    have n_515617 : ¬ x_515612 = 0 := h_515616
    have r_515618 := ne_lo (lo := 1) n_515617 rx_515612 rc_0 rfl (by decide)
    refine g_aload_n C 1 dX7_readOne_20 rfl rfl ?_
    obtain ⟨x_515619, hx_515619, rx_515619⟩ := ex_get (I := I) (a := x) (j := 5) (lo := (-2147483648)) (hi := 2147483647) hU.1 hLx (ro_o hkx (by decide)) rfl
    refine g_getI C K hLx hkx f_7_28 (v := x_515619) hx_515619 dX7_readOne_21 ?_
    refine g_bipush C (v := 20) dX7_readOne_24 (by decide) ?_
    refine g_icmp_ge C (tgt := 35) dX7_readOne_26 (by decide) (fun h_515620 => ?_) (fun h_515620 => ?_)
    · skip
      have r_515621 := le_r (h_515620) rc_20 rx_515619
      refine g_lo (is := [1, 2, 3, 4, 0]) (lo2 := [(0, .ref x), (1, .ref a0), (2, .ref a1), (3, .int a2), (4, .int x_515611)]) rfl ?_
      exact j_35 I J hU hF hG a2 (ra2) x_515611 x_515619 (r_515621) hx_515611 hx_515619
    · skip
      have r_515622 := lt_l (hi := 19) (nle h_515620) rx_515619 rc_20 (by decide)
      refine g_iload_n C 4 dX7_readOne_29 rfl rfl ?_
      refine g_bipush C (v := 8) dX7_readOne_30 (by decide) ?_
      refine g_icmp_le C (tgt := 41) dX7_readOne_32 (by decide) (fun h_515623 => ?_) (fun h_515623 => ?_)
      · skip
        refine g_aload_n C 1 dX7_readOne_41 rfl rfl ?_
        refine g_dup C dX7_readOne_42 rfl ?_
        refine g_getI C K hLx hkx f_7_28 (v := x_515619) hx_515619 dX7_readOne_43 ?_
        refine g_iconst C (v := 1) dX7_readOne_46 (by decide) ?_
        obtain ⟨x_515624, hx_515624, rx_515624, tx_515624⟩ := ex_add (-2147483647) 20 r_515622 rc_1 (by decide) (by decide) (by decide) (by decide)
        refine g_iadd C (v := x_515624) dX7_readOne_47 hx_515624 ?_
        refine h_putI C K hLx hkx f_7_28 p_7_5 dX7_readOne_48 (fun I_515625 hI_515625 => ?_)
        have hU_515626 := iv_put W9 hU hI_515625 (ro_o hkx (by decide)) (lo := (-2147483648)) (hi := 2147483647) (rfl) (rg_all _) rfl
        have hF_515627 := fq_puto hF hI_515625 hkx (by decide) (by decide)
        refine g_aload_n C 2 dX7_readOne_51 rfl rfl ?_
        refine g_callVV C K (c_X10_advance W9 hLa0 hka0   hU_515626) hLa0 hka0 (by decide) rfl v_7_60 rfl ⟨rfl, rfl⟩ ⟨Nat.le_of_ble_eq_true rfl, Nat.le_of_ble_eq_true rfl⟩ (Nat.le_of_ble_eq_true rfl) ⟨Nat.le_of_ble_eq_true rfl, Nat.le_of_ble_eq_true rfl⟩ dX7_readOne_52 rfl (st := []) (fun I_515629 J_515630 h_515631 => ?_)
        obtain ⟨hUI_515629, hFI_515629, hGJ_515630⟩ := h_515631
        have hF_515632 := fq_tr hF_515627 hFI_515629 (by decide)
        have hG_515633 := fq_tr hG hGJ_515630 (by decide)
        refine g_iload C 0 dX7_readOne_55 rfl ?_
        refine g_bipush C (v := 40) dX7_readOne_57 (by decide) ?_
        refine g_icmp_ne C (tgt := 89) dX7_readOne_59 (by decide) (fun h_515634 => ?_) (fun h_515634 => ?_)
        · skip
          have n_515635 : ¬ x_515611 = 40 := h_515634
          refine g_iload C 0 dX7_readOne_89 rfl ?_
          refine g_bipush C (v := 19) dX7_readOne_91 (by decide) ?_
          refine g_icmp_ne C (tgt := 125) dX7_readOne_93 (by decide) (fun h_515636 => ?_) (fun h_515636 => ?_)
          · skip
            have n_515637 : ¬ x_515611 = 19 := h_515636
            refine g_aload_n C 1 dX7_readOne_125 rfl rfl ?_
            refine g_aload_n C 2 dX7_readOne_126 rfl rfl ?_
            refine g_aload_n C 3 dX7_readOne_127 rfl rfl ?_
            refine g_iload C 0 dX7_readOne_128 rfl ?_
            refine g_callVI C K (c_X7_readPlainOne W9 hLx hkx hLa0 hka0 hLa1 hka1 x_515611  hUI_515629) hLx hkx (by decide) rfl v_7_76 rfl ⟨rfl, rfl⟩ ⟨Nat.le_of_ble_eq_true rfl, Nat.le_of_ble_eq_true rfl⟩ (Nat.le_of_ble_eq_true rfl) ⟨Nat.le_of_ble_eq_true rfl, Nat.le_of_ble_eq_true rfl⟩ dX7_readOne_130 rfl (st := []) (fun x_515638 I_515639 J_515640 h_515641 => ?_)
            obtain ⟨hUI_515639, hFI_515639, hGJ_515640, rx_515638⟩ := h_515641
            have hF_515642 := fq_tr hF_515632 hFI_515639 (by decide)
            have hG_515643 := fq_tr hG_515633 hGJ_515640 (by decide)
            exact g_zret (ty := .boolean) (r := x_515638) B K rfl (nar_z (rx_515638)) ⟨hUI_515639, hF_515642, hG_515643, rx_515638⟩ dX7_readOne_133
          · skip
            have r_515644 := (⟨(eq_rg (h_515636) rc_19).1, (eq_rg (h_515636) rc_19).2⟩ : Rg 19 19 x_515611)
            refine g_aload_n C 1 dX7_readOne_96 rfl rfl ?_
            refine g_aload_n C 2 dX7_readOne_97 rfl rfl ?_
            refine g_aload_n C 3 dX7_readOne_98 rfl rfl ?_
            refine g_iload_n C 4 dX7_readOne_99 rfl rfl ?_
            refine g_iconst C (v := 1) dX7_readOne_100 (by decide) ?_
            obtain ⟨x_515645, hx_515645, rx_515645, tx_515645⟩ := ex_add 4 4 ra2 rc_1 (by decide) (by decide) (by decide) (by decide)
            refine g_iadd C (v := x_515645) dX7_readOne_101 hx_515645 ?_
            refine g_callVI C K (c_X7_readOne_4 W9 hLx hkx hLa0 hka0 hLa1 hka1 x_515645 (rx_515645) hUI_515629) hLx hkx (by decide) rfl v_7_67 rfl ⟨rfl, rfl⟩ ⟨Nat.le_of_ble_eq_true rfl, Nat.le_of_ble_eq_true rfl⟩ (Nat.le_of_ble_eq_true rfl) ⟨Nat.le_of_ble_eq_true rfl, Nat.le_of_ble_eq_true rfl⟩ dX7_readOne_102 rfl (st := []) (fun x_515646 I_515647 J_515648 h_515649 => ?_)
            obtain ⟨hUI_515647, hFI_515647, hGJ_515648, rx_515646⟩ := h_515649
            have hF_515650 := fq_tr hF_515632 hFI_515647 (by decide)
            have hG_515651 := fq_tr hG_515633 hGJ_515648 (by decide)
            refine g_if_eq C (tgt := 123) dX7_readOne_105 (by decide) (fun h_515652 => ?_) (fun h_515652 => ?_)
            · skip
              have r_515653 := (⟨(rx_515646).1, (eq_rg (h_515652) rc_0).2⟩ : Rg 0 0 x_515646)
              refine g_iconst C (v := 0) dX7_readOne_123 (by decide) ?_
              exact g_zret (ty := .boolean) (r := 0) B K rfl (rfl) ⟨hUI_515647, hF_515650, hG_515651, rg_w rc_0 (by decide) (by decide)⟩ dX7_readOne_124
            · skip
              have n_515654 : ¬ x_515646 = 0 := h_515652
              have r_515655 := ne_lo (lo := 1) n_515654 rx_515646 rc_0 rfl (by decide)
              refine g_aload_n C 1 dX7_readOne_108 rfl rfl ?_
              refine g_bipush C (v := 19) dX7_readOne_109 (by decide) ?_
              refine g_iconst C (v := 0) dX7_readOne_111 (by decide) ?_
              refine g_iconst C (v := 0) dX7_readOne_112 (by decide) ?_
              refine g_callVI C K (c_X7_addStep W9 hLx hkx 19 0 0 (rg_w rc_0 (by decide) (by decide)) hUI_515647  (fun q => absurd q (by decide))) hLx hkx (by decide) rfl v_7_63 rfl ⟨rfl, rfl⟩ ⟨Nat.le_of_ble_eq_true rfl, Nat.le_of_ble_eq_true rfl⟩ (Nat.le_of_ble_eq_true rfl) ⟨Nat.le_of_ble_eq_true rfl, Nat.le_of_ble_eq_true rfl⟩ dX7_readOne_113 rfl (st := []) (fun x_515656 I_515657 J_515658 h_515659 => ?_)
              obtain ⟨hUI_515657, hFI_515657, hGJ_515658, rx_515656⟩ := h_515659
              have hF_515660 := fq_tr hF_515650 hFI_515657 (by decide)
              have hG_515661 := fq_tr hG_515651 hGJ_515658 (by decide)
              refine g_if_eq C (tgt := 123) dX7_readOne_116 (by decide) (fun h_515662 => ?_) (fun h_515662 => ?_)
              · skip
                have r_515663 := (⟨(rx_515656).1, (eq_rg (h_515662) rc_0).2⟩ : Rg 0 0 x_515656)
                refine g_iconst C (v := 0) dX7_readOne_123 (by decide) ?_
                exact g_zret (ty := .boolean) (r := 0) B K rfl (rfl) ⟨hUI_515657, hF_515660, hG_515661, rg_w rc_0 (by decide) (by decide)⟩ dX7_readOne_124
              · skip
                have n_515664 : ¬ x_515656 = 0 := h_515662
                have r_515665 := ne_lo (lo := 1) n_515664 rx_515656 rc_0 rfl (by decide)
                refine g_iconst C (v := 1) dX7_readOne_119 (by decide) ?_
                refine g_goto C (tgt := 124) dX7_readOne_120 (by decide) ?_
                exact g_zret (ty := .boolean) (r := 1) B K rfl (rfl) ⟨hUI_515657, hF_515660, hG_515661, rg_w rc_1 (by decide) (by decide)⟩ dX7_readOne_124
        · skip
          have r_515666 := (⟨(eq_rg (h_515634) rc_40).1, (eq_rg (h_515634) rc_40).2⟩ : Rg 40 40 x_515611)
          refine g_aload_n C 1 dX7_readOne_62 rfl rfl ?_
          refine g_aload_n C 2 dX7_readOne_63 rfl rfl ?_
          refine g_aload_n C 3 dX7_readOne_64 rfl rfl ?_
          refine g_iload_n C 4 dX7_readOne_65 rfl rfl ?_
          refine g_iconst C (v := 1) dX7_readOne_66 (by decide) ?_
          obtain ⟨x_515667, hx_515667, rx_515667, tx_515667⟩ := ex_add 4 4 ra2 rc_1 (by decide) (by decide) (by decide) (by decide)
          refine g_iadd C (v := x_515667) dX7_readOne_67 hx_515667 ?_
          refine g_callVI C K (c_X7_readCond_4 W9 hLx hkx hLa0 hka0 hLa1 hka1 x_515667 (rx_515667) hUI_515629) hLx hkx (by decide) rfl v_7_46 rfl ⟨rfl, rfl⟩ ⟨Nat.le_of_ble_eq_true rfl, Nat.le_of_ble_eq_true rfl⟩ (Nat.le_of_ble_eq_true rfl) ⟨Nat.le_of_ble_eq_true rfl, Nat.le_of_ble_eq_true rfl⟩ dX7_readOne_68 rfl (st := []) (fun x_515668 I_515669 J_515670 h_515671 => ?_)
          obtain ⟨hUI_515669, hFI_515669, hGJ_515670, rx_515668⟩ := h_515671
          have hF_515672 := fq_tr hF_515632 hFI_515669 (by decide)
          have hG_515673 := fq_tr hG_515633 hGJ_515670 (by decide)
          refine g_if_eq C (tgt := 87) dX7_readOne_71 (by decide) (fun h_515674 => ?_) (fun h_515674 => ?_)
          · skip
            have r_515675 := (⟨(rx_515668).1, (eq_rg (h_515674) rc_0).2⟩ : Rg 0 0 x_515668)
            refine g_iconst C (v := 0) dX7_readOne_87 (by decide) ?_
            exact g_zret (ty := .boolean) (r := 0) B K rfl (rfl) ⟨hUI_515669, hF_515672, hG_515673, rg_w rc_0 (by decide) (by decide)⟩ dX7_readOne_88
          · skip
            have n_515676 : ¬ x_515668 = 0 := h_515674
            have r_515677 := ne_lo (lo := 1) n_515676 rx_515668 rc_0 rfl (by decide)
            refine g_aload_n C 2 dX7_readOne_74 rfl rfl ?_
            refine g_bipush C (v := 41) dX7_readOne_75 (by decide) ?_
            refine g_callVI C K (c_X10_take W9 hLa0 hka0 41 (rg_w rc_41 (by decide) (by decide)) hUI_515669) hLa0 hka0 (by decide) rfl v_7_50 rfl ⟨rfl, rfl⟩ ⟨Nat.le_of_ble_eq_true rfl, Nat.le_of_ble_eq_true rfl⟩ (Nat.le_of_ble_eq_true rfl) ⟨Nat.le_of_ble_eq_true rfl, Nat.le_of_ble_eq_true rfl⟩ dX7_readOne_77 rfl (st := []) (fun x_515678 I_515679 J_515680 h_515681 => ?_)
            obtain ⟨hUI_515679, hFI_515679, hGJ_515680, rx_515678⟩ := h_515681
            have hF_515682 := fq_tr hF_515672 hFI_515679 (by decide)
            have hG_515683 := fq_tr hG_515673 hGJ_515680 (by decide)
            refine g_if_eq C (tgt := 87) dX7_readOne_80 (by decide) (fun h_515684 => ?_) (fun h_515684 => ?_)
            · skip
              have r_515685 := (⟨(rx_515678).1, (eq_rg (h_515684) rc_0).2⟩ : Rg 0 0 x_515678)
              refine g_iconst C (v := 0) dX7_readOne_87 (by decide) ?_
              exact g_zret (ty := .boolean) (r := 0) B K rfl (rfl) ⟨hUI_515679, hF_515682, hG_515683, rg_w rc_0 (by decide) (by decide)⟩ dX7_readOne_88
            · skip
              have n_515686 : ¬ x_515678 = 0 := h_515684
              have r_515687 := ne_lo (lo := 1) n_515686 rx_515678 rc_0 rfl (by decide)
              refine g_iconst C (v := 1) dX7_readOne_83 (by decide) ?_
              refine g_goto C (tgt := 88) dX7_readOne_84 (by decide) ?_
              exact g_zret (ty := .boolean) (r := 1) B K rfl (rfl) ⟨hUI_515679, hF_515682, hG_515683, rg_w rc_1 (by decide) (by decide)⟩ dX7_readOne_88
      · skip
        have r_515688 := lt_r (lo := 9) (nle h_515623) rc_8 ra2 (by decide)
        exact rg_no r_515688 (by decide)
  · skip
    have r_515689 := (⟨(rx_515612).1, (eq_rg (h_515616) rc_0).2⟩ : Rg 0 0 x_515612)
    refine g_aload_n C 2 dX7_readOne_14 rfl rfl ?_
    refine g_iconst C (v := 1) dX7_readOne_15 (by decide) ?_
    refine g_callVI C K (c_X10_fail W9 hLa0 hka0 1 (rg_w rc_1 (by decide) (by decide)) hU) hLa0 hka0 (by decide) rfl v_7_73 rfl ⟨rfl, rfl⟩ ⟨Nat.le_of_ble_eq_true rfl, Nat.le_of_ble_eq_true rfl⟩ (Nat.le_of_ble_eq_true rfl) ⟨Nat.le_of_ble_eq_true rfl, Nat.le_of_ble_eq_true rfl⟩ dX7_readOne_16 rfl (st := []) (fun x_515690 I_515691 J_515692 h_515693 => ?_)
    obtain ⟨hUI_515691, hFI_515691, hGJ_515692, rx_515690⟩ := h_515693
    have hF_515694 := fq_tr hF hFI_515691 (by decide)
    have hG_515695 := fq_tr hG hGJ_515692 (by decide)
    exact g_zret (ty := .boolean) (r := x_515690) B K rfl (nar_z (rg_w rx_515690 (by decide) (by decide))) ⟨hUI_515691, hF_515694, hG_515695, rg_w rx_515690 (by decide) (by decide)⟩ dX7_readOne_19
set_option maxRecDepth 100000 in
set_option maxHeartbeats 8000000 in
theorem c_X7_readAll_3 {l : Launch} {D : va_G} {cy : Nat → ClassId} {L : List Nat} {κ ln : Nat → Nat} {R : Nat → Nat → Option Nat} {I : Nat → Nat → Int32} {J : Nat → Nat → Int64} {ow : Nat → Nat × Nat} (W9 : ∀ a ∈ L, Shp L κ ln R ow a) {x : Nat} (hLx : x ∈ L) (hkx : κ x = 7) {a0 : Nat} (hLa0 : a0 ∈ L) (hka0 : κ a0 = 10) {a1 : Nat} (hLa1 : a1 ∈ L) (hka1 : κ a1 = 8) (a2 : Int32) (ra2 : Rg 3 3 a2) (hU : Iv L κ R ow I) : CtI l yX7_readAll cX7_readAll 6 (some .boolean) { frames := 20, cells := 0, slots := 0, locals := 489 } D cy L κ ln R I J [.ref x, .ref a0, .ref a1, .int a2] (fun r I2 J2 => Iv L κ R ow I2 ∧ Fq L κ ow [704, 705, 1007, 1008, 1009, 1011, 1012, 52000, 52100, 52200] I I2 ∧ Fq L κ ow [1010] J J2 ∧ Rg 0 1 r) := by
  refine CtI.of (by decide +kernel) (Nat.le_of_ble_eq_true rfl) ?_
  intro p e s m below meth c B K
  have C := B.1
  have hF : Fq L κ ow [704, 705, 1007, 1008, 1009, 1011, 1012, 52000, 52100, 52200] I I := fq_rf
  have hG : Fq L κ ow [1010] J J := fq_rf
  refine g_lo (is := [0, 1, 2, 3]) (lo2 := [(0, .ref x), (1, .ref a0), (2, .ref a1), (3, .int a2)]) rfl ?_
  have l_12 : ∀ (n_12 : Nat) (I_516339 : Nat → Nat → Int32) (J_516340 : Nat → Nat → Int64) (hU_516341 : Iv L κ R ow I_516339) (hF_516342 : Fq L κ ow [704, 705, 1007, 1008, 1009, 1011, 1012, 52000, 52100, 52200] I I_516339) (hG_516343 : Fq L κ ow [1010] J J_516340) (v_516344 : Int32) (rv_516344 : Rg 3 3 v_516344) (v_516345 : Int32) (rv_516345 : Rg 0 1 v_516345) (v_516346 : Int32) (rv_516346 : Rg 0 20 v_516346) (hm_516347 : 20 < (v_516346 : Int32).toInt + (n_12 : Int)), WG p l e { frames := 20, cells := 0, slots := 0, locals := 489 } s m ([.ref x, .ref a0, .ref a1, .int a2] : List Value).toArray below meth c 6 0 0 (MQ below (Qi_ D cy L κ ln R (fun r I2 J2 => Iv L κ R ow I2 ∧ Fq L κ ow [704, 705, 1007, 1008, 1009, 1011, 1012, 52000, 52100, 52200] I I2 ∧ Fq L κ ow [1010] J J2 ∧ Rg 0 1 r)) ([.ref x, .ref a0, .ref a1, .int a2] : List Value).toArray s 0 0 (Al_ L)) D cy (Al_ L) s.heap L κ ln R I_516339 J_516340 12 [(0, .ref x), (1, .ref a0), (2, .ref a1), (3, .int v_516344), (4, .int v_516345), (5, .int v_516346)] [] := by
    intro n_12
    induction n_12 with
    | zero =>
      intro I_516339 J_516340 hU_516341 hF_516342 hG_516343 v_516344 rv_516344 v_516345 rv_516345 v_516346 rv_516346 hm_516347
      exact ms_0 rv_516346 hm_516347
    | succ n_12 ih_12 =>
      intro I_516339 J_516340 hU_516341 hF_516342 hG_516343 v_516344 rv_516344 v_516345 rv_516345 v_516346 rv_516346 hm_516347
      have j_62 : ∀ (I_516348 : Nat → Nat → Int32) (J_516349 : Nat → Nat → Int64) (hU_516350 : Iv L κ R ow I_516348) (hF_516351 : Fq L κ ow [704, 705, 1007, 1008, 1009, 1011, 1012, 52000, 52100, 52200] I I_516348) (hG_516352 : Fq L κ ow [1010] J J_516349) (v_516353 : Int32) (rv_516353 : Rg 3 3 v_516353) (v_516354 : Int32) (rv_516354 : Rg 1 1 v_516354) (nv_516354_0 : ¬ v_516354 = 0) (v_516355 : Int32) (rv_516355 : Rg 0 19 v_516355) (hm_516356 : 20 < (v_516355 : Int32).toInt + ((n_12 + 1 : Nat) : Int)), WG p l e { frames := 20, cells := 0, slots := 0, locals := 489 } s m ([.ref x, .ref a0, .ref a1, .int a2] : List Value).toArray below meth c 6 0 0 (MQ below (Qi_ D cy L κ ln R (fun r I2 J2 => Iv L κ R ow I2 ∧ Fq L κ ow [704, 705, 1007, 1008, 1009, 1011, 1012, 52000, 52100, 52200] I I2 ∧ Fq L κ ow [1010] J J2 ∧ Rg 0 1 r)) ([.ref x, .ref a0, .ref a1, .int a2] : List Value).toArray s 0 0 (Al_ L)) D cy (Al_ L) s.heap L κ ln R I_516348 J_516349 62 [(0, .ref x), (1, .ref a0), (2, .ref a1), (3, .int v_516353), (4, .int v_516354), (5, .int v_516355)] [] := by
        intro I_516348 J_516349 hU_516350 hF_516351 hG_516352 v_516353 rv_516353 v_516354 rv_516354 nv_516354_0 v_516355 rv_516355 hm_516356
        refine g_iconst C (v := 0) dX7_readAll_62 (by decide) ?_
        refine g_istore C dX7_readAll_63 (by decide) (lo2 := [(4, .int 0), (0, .ref x), (1, .ref a0), (2, .ref a1), (3, .int v_516353), (5, .int v_516355)]) rfl ?_
        obtain ⟨x_516357, hx_516357, rx_516357, tx_516357⟩ := ex_add (y := 1) 1 20 rv_516355 rc_1 (by decide) (by decide) (by decide) (by decide)
        refine g_iinc C dX7_readAll_65 (k := 5) (v := x_516357) rfl hx_516357 (by decide) (lo2 := [(5, .int x_516357), (4, .int 0), (0, .ref x), (1, .ref a0), (2, .ref a1), (3, .int v_516353)]) rfl ?_
        refine g_goto C (tgt := 12) dX7_readAll_68 (by decide) ?_
        refine g_lo (is := [2, 3, 4, 5, 1, 0]) (lo2 := [(0, .ref x), (1, .ref a0), (2, .ref a1), (3, .int v_516353), (4, .int 0), (5, .int x_516357)]) rfl ?_
        exact ih_12 I_516348 J_516349 hU_516350 hF_516351 hG_516352 v_516353 (rv_516353) 0 (rg_w rc_0 (by decide) (by decide)) x_516357 (rg_w rx_516357 (by decide) (by decide)) (ms_1 hm_516356 (ti_k tx_516357 rc_1) (by decide))
      refine g_iload C 5 dX7_readAll_12 rfl ?_
      refine g_bipush C (v := 20) dX7_readAll_14 (by decide) ?_
      refine g_icmp_ge C (tgt := 71) dX7_readAll_16 (by decide) (fun h_516358 => ?_) (fun h_516358 => ?_)
      · skip
        have r_516359 := le_r (h_516358) rc_20 rv_516346
        refine g_iload C 4 dX7_readAll_71 rfl ?_
        exact g_zret (ty := .boolean) (r := v_516345) B K rfl (nar_z (rv_516345)) ⟨hU_516341, hF_516342, hG_516343, rv_516345⟩ dX7_readAll_73
      · skip
        have r_516360 := lt_l (hi := 19) (nle h_516358) rv_516346 rc_20 (by decide)
        refine g_iload C 4 dX7_readAll_19 rfl ?_
        refine g_if_eq C (tgt := 71) dX7_readAll_21 (by decide) (fun h_516361 => ?_) (fun h_516361 => ?_)
        · skip
          have r_516362 := (⟨(rv_516345).1, (eq_rg (h_516361) rc_0).2⟩ : Rg 0 0 v_516345)
          refine g_iload C 4 dX7_readAll_71 rfl ?_
          exact g_zret (ty := .boolean) (r := v_516345) B K rfl (nar_z (rg_w r_516362 (by decide) (by decide))) ⟨hU_516341, hF_516342, hG_516343, rg_w r_516362 (by decide) (by decide)⟩ dX7_readAll_73
        · skip
          have n_516363 : ¬ v_516345 = 0 := h_516361
          have r_516364 := ne_lo (lo := 1) n_516363 rv_516345 rc_0 rfl (by decide)
          refine g_aload_n C 1 dX7_readAll_24 rfl rfl ?_
          obtain ⟨x_516365, hx_516365, rx_516365⟩ := ex_get (I := I_516339) (a := a0) (j := 8) (lo := (-2147483648)) (hi := 2147483647) hU_516341.1 hLa0 (ro_o hka0 (by decide)) rfl
          refine g_getI C K hLa0 hka0 f_7_57 (v := x_516365) hx_516365 dX7_readAll_25 ?_
          refine g_bipush C (v := 18) dX7_readAll_28 (by decide) ?_
          refine g_icmp_ne C (tgt := 71) dX7_readAll_30 (by decide) (fun h_516366 => ?_) (fun h_516366 => ?_)
          · skip
            have n_516367 : ¬ x_516365 = 18 := h_516366
            refine g_iload C 4 dX7_readAll_71 rfl ?_
            exact g_zret (ty := .boolean) (r := v_516345) B K rfl (nar_z (rg_w r_516364 (by decide) (by decide))) ⟨hU_516341, hF_516342, hG_516343, rg_w r_516364 (by decide) (by decide)⟩ dX7_readAll_73
          · skip
            have r_516368 := (⟨(eq_rg (h_516366) rc_18).1, (eq_rg (h_516366) rc_18).2⟩ : Rg 18 18 x_516365)
            refine g_aload_n C 1 dX7_readAll_33 rfl rfl ?_
            refine g_callVV C K (c_X10_advance W9 hLa0 hka0   hU_516341) hLa0 hka0 (by decide) rfl v_7_60 rfl ⟨rfl, rfl⟩ ⟨Nat.le_of_ble_eq_true rfl, Nat.le_of_ble_eq_true rfl⟩ (Nat.le_of_ble_eq_true rfl) ⟨Nat.le_of_ble_eq_true rfl, Nat.le_of_ble_eq_true rfl⟩ dX7_readAll_34 rfl (st := []) (fun I_516370 J_516371 h_516372 => ?_)
            obtain ⟨hUI_516370, hFI_516370, hGJ_516371⟩ := h_516372
            have hF_516373 := fq_tr hF_516342 hFI_516370 (by decide)
            have hG_516374 := fq_tr hG_516343 hGJ_516371 (by decide)
            refine g_aload_n C 0 dX7_readAll_37 rfl rfl ?_
            refine g_aload_n C 1 dX7_readAll_38 rfl rfl ?_
            refine g_aload_n C 2 dX7_readAll_39 rfl rfl ?_
            refine g_iload_n C 3 dX7_readAll_40 rfl rfl ?_
            refine g_callVI C K (c_X7_readOne_3 W9 hLx hkx hLa0 hka0 hLa1 hka1 v_516344 (rv_516344) hUI_516370) hLx hkx (by decide) rfl v_7_67 rfl ⟨rfl, rfl⟩ ⟨Nat.le_of_ble_eq_true rfl, Nat.le_of_ble_eq_true rfl⟩ (Nat.le_of_ble_eq_true rfl) ⟨Nat.le_of_ble_eq_true rfl, Nat.le_of_ble_eq_true rfl⟩ dX7_readAll_41 rfl (st := []) (fun x_516375 I_516376 J_516377 h_516378 => ?_)
            obtain ⟨hUI_516376, hFI_516376, hGJ_516377, rx_516375⟩ := h_516378
            have hF_516379 := fq_tr hF_516373 hFI_516376 (by decide)
            have hG_516380 := fq_tr hG_516374 hGJ_516377 (by decide)
            refine g_if_eq C (tgt := 62) dX7_readAll_44 (by decide) (fun h_516381 => ?_) (fun h_516381 => ?_)
            · skip
              have r_516382 := (⟨(rx_516375).1, (eq_rg (h_516381) rc_0).2⟩ : Rg 0 0 x_516375)
              refine g_lo (is := [0, 1, 2, 3, 4, 5]) (lo2 := [(0, .ref x), (1, .ref a0), (2, .ref a1), (3, .int v_516344), (4, .int v_516345), (5, .int v_516346)]) rfl ?_
              exact j_62 I_516376 J_516377 hUI_516376 hF_516379 hG_516380 v_516344 (rv_516344) v_516345 (r_516364) (n_516363) v_516346 (r_516360) hm_516347
            · skip
              have n_516383 : ¬ x_516375 = 0 := h_516381
              have r_516384 := ne_lo (lo := 1) n_516383 rx_516375 rc_0 rfl (by decide)
              refine g_aload_n C 0 dX7_readAll_47 rfl rfl ?_
              refine g_bipush C (v := 18) dX7_readAll_48 (by decide) ?_
              refine g_iconst C (v := 0) dX7_readAll_50 (by decide) ?_
              refine g_iconst C (v := 0) dX7_readAll_51 (by decide) ?_
              refine g_callVI C K (c_X7_addStep W9 hLx hkx 18 0 0 (rg_w rc_0 (by decide) (by decide)) hUI_516376  (fun q => absurd q (by decide))) hLx hkx (by decide) rfl v_7_63 rfl ⟨rfl, rfl⟩ ⟨Nat.le_of_ble_eq_true rfl, Nat.le_of_ble_eq_true rfl⟩ (Nat.le_of_ble_eq_true rfl) ⟨Nat.le_of_ble_eq_true rfl, Nat.le_of_ble_eq_true rfl⟩ dX7_readAll_52 rfl (st := []) (fun x_516385 I_516386 J_516387 h_516388 => ?_)
              obtain ⟨hUI_516386, hFI_516386, hGJ_516387, rx_516385⟩ := h_516388
              have hF_516389 := fq_tr hF_516379 hFI_516386 (by decide)
              have hG_516390 := fq_tr hG_516380 hGJ_516387 (by decide)
              refine g_if_eq C (tgt := 62) dX7_readAll_55 (by decide) (fun h_516391 => ?_) (fun h_516391 => ?_)
              · skip
                have r_516392 := (⟨(rx_516385).1, (eq_rg (h_516391) rc_0).2⟩ : Rg 0 0 x_516385)
                refine g_lo (is := [0, 1, 2, 3, 4, 5]) (lo2 := [(0, .ref x), (1, .ref a0), (2, .ref a1), (3, .int v_516344), (4, .int v_516345), (5, .int v_516346)]) rfl ?_
                exact j_62 I_516386 J_516387 hUI_516386 hF_516389 hG_516390 v_516344 (rv_516344) v_516345 (r_516364) (n_516363) v_516346 (r_516360) hm_516347
              · skip
                have n_516393 : ¬ x_516385 = 0 := h_516391
                have r_516394 := ne_lo (lo := 1) n_516393 rx_516385 rc_0 rfl (by decide)
                refine g_iconst C (v := 1) dX7_readAll_58 (by decide) ?_
                refine g_goto C (tgt := 63) dX7_readAll_59 (by decide) ?_
                refine g_istore C dX7_readAll_63 (by decide) (lo2 := [(4, .int 1), (0, .ref x), (1, .ref a0), (2, .ref a1), (3, .int v_516344), (5, .int v_516346)]) rfl ?_
                obtain ⟨x_516395, hx_516395, rx_516395, tx_516395⟩ := ex_add (y := 1) 1 20 r_516360 rc_1 (by decide) (by decide) (by decide) (by decide)
                refine g_iinc C dX7_readAll_65 (k := 5) (v := x_516395) rfl hx_516395 (by decide) (lo2 := [(5, .int x_516395), (4, .int 1), (0, .ref x), (1, .ref a0), (2, .ref a1), (3, .int v_516344)]) rfl ?_
                refine g_goto C (tgt := 12) dX7_readAll_68 (by decide) ?_
                refine g_lo (is := [2, 3, 4, 5, 1, 0]) (lo2 := [(0, .ref x), (1, .ref a0), (2, .ref a1), (3, .int v_516344), (4, .int 1), (5, .int x_516395)]) rfl ?_
                exact ih_12 I_516386 J_516387 hUI_516386 hF_516389 hG_516390 v_516344 (rv_516344) 1 (rg_w rc_1 (by decide) (by decide)) x_516395 (rg_w rx_516395 (by decide) (by decide)) (ms_1 hm_516347 (ti_k tx_516395 rc_1) (by decide))
  refine g_aload_n C 0 dX7_readAll_0 rfl rfl ?_
  refine g_aload_n C 1 dX7_readAll_1 rfl rfl ?_
  refine g_aload_n C 2 dX7_readAll_2 rfl rfl ?_
  refine g_iload_n C 3 dX7_readAll_3 rfl rfl ?_
  refine g_callVI C K (c_X7_readOne_3 W9 hLx hkx hLa0 hka0 hLa1 hka1 a2 (ra2) hU) hLx hkx (by decide) rfl v_7_67 rfl ⟨rfl, rfl⟩ ⟨Nat.le_of_ble_eq_true rfl, Nat.le_of_ble_eq_true rfl⟩ (Nat.le_of_ble_eq_true rfl) ⟨Nat.le_of_ble_eq_true rfl, Nat.le_of_ble_eq_true rfl⟩ dX7_readAll_4 rfl (st := []) (fun x_516396 I_516397 J_516398 h_516399 => ?_)
  obtain ⟨hUI_516397, hFI_516397, hGJ_516398, rx_516396⟩ := h_516399
  have hF_516400 := fq_tr hF hFI_516397 (by decide)
  have hG_516401 := fq_tr hG hGJ_516398 (by decide)
  refine g_istore C dX7_readAll_7 (by decide) (lo2 := [(4, .int x_516396), (0, .ref x), (1, .ref a0), (2, .ref a1), (3, .int a2)]) rfl ?_
  refine g_iconst C (v := 0) dX7_readAll_9 (by decide) ?_
  refine g_istore C dX7_readAll_10 (by decide) (lo2 := [(5, .int 0), (4, .int x_516396), (0, .ref x), (1, .ref a0), (2, .ref a1), (3, .int a2)]) rfl ?_
  refine g_lo (is := [2, 3, 4, 5, 1, 0]) (lo2 := [(0, .ref x), (1, .ref a0), (2, .ref a1), (3, .int a2), (4, .int x_516396), (5, .int 0)]) rfl ?_
  exact l_12 21 I_516397 J_516398 hUI_516397 hF_516400 hG_516401 a2 (ra2) x_516396 (rx_516396) 0 (rg_w rc_0 (by decide) (by decide)) (ms_s (a := 0) (b := 20) (N := 21) (rg_w rc_0 (by decide) (by decide)) (by decide))
