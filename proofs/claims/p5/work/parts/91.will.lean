theorem dX11_will_0 : decode cX11_will 0 = .ok (.aload_n 0, 1) := by decide +kernel
theorem dX11_will_1 : decode cX11_will 1 = .ok (.getfield 19, 3) := by decide +kernel
theorem dX11_will_4 : decode cX11_will 4 = .ok (.iload_n 1, 1) := by decide +kernel
theorem dX11_will_5 : decode cX11_will 5 = .ok (.invokevirtual 133, 3) := by decide +kernel
theorem dX11_will_8 : decode cX11_will 8 = .ok (.ifCond .ne 5, 3) := by decide +kernel
theorem dX11_will_11 : decode cX11_will 11 = .ok (.iconst (-1), 1) := by decide +kernel
theorem dX11_will_12 : decode cX11_will 12 = .ok (.ireturn, 1) := by decide +kernel
theorem dX11_will_13 : decode cX11_will 13 = .ok (.aload_n 0, 1) := by decide +kernel
theorem dX11_will_14 : decode cX11_will 14 = .ok (.getfield 28, 3) := by decide +kernel
theorem dX11_will_17 : decode cX11_will 17 = .ok (.getfield 166, 3) := by decide +kernel
theorem dX11_will_20 : decode cX11_will 20 = .ok (.iload_n 1, 1) := by decide +kernel
theorem dX11_will_21 : decode cX11_will 21 = .ok (.iaload, 1) := by decide +kernel
theorem dX11_will_22 : decode cX11_will 22 = .ok (.istore_n 2, 1) := by decide +kernel
theorem dX11_will_23 : decode cX11_will 23 = .ok (.aload_n 0, 1) := by decide +kernel
theorem dX11_will_24 : decode cX11_will 24 = .ok (.getfield 28, 3) := by decide +kernel
theorem dX11_will_27 : decode cX11_will 27 = .ok (.iload_n 1, 1) := by decide +kernel
theorem dX11_will_28 : decode cX11_will 28 = .ok (.aload_n 0, 1) := by decide +kernel
theorem dX11_will_29 : decode cX11_will 29 = .ok (.getfield 28, 3) := by decide +kernel
theorem dX11_will_32 : decode cX11_will 32 = .ok (.getfield 154, 3) := by decide +kernel
theorem dX11_will_35 : decode cX11_will 35 = .ok (.invokevirtual 263, 3) := by decide +kernel
theorem dX11_will_38 : decode cX11_will 38 = .ok (.istore_n 3, 1) := by decide +kernel
theorem dX11_will_39 : decode cX11_will 39 = .ok (.aload_n 0, 1) := by decide +kernel
theorem dX11_will_40 : decode cX11_will 40 = .ok (.iconst 0, 1) := by decide +kernel
theorem dX11_will_41 : decode cX11_will 41 = .ok (.putfield 97, 3) := by decide +kernel
theorem dX11_will_44 : decode cX11_will 44 = .ok (.aload_n 0, 1) := by decide +kernel
theorem dX11_will_45 : decode cX11_will 45 = .ok (.aload_n 0, 1) := by decide +kernel
theorem dX11_will_46 : decode cX11_will 46 = .ok (.getfield 19, 3) := by decide +kernel
theorem dX11_will_49 : decode cX11_will 49 = .ok (.getfield 304, 3) := by decide +kernel
theorem dX11_will_52 : decode cX11_will 52 = .ok (.iload_n 1, 1) := by decide +kernel
theorem dX11_will_53 : decode cX11_will 53 = .ok (.laload, 1) := by decide +kernel
theorem dX11_will_54 : decode cX11_will 54 = .ok (.invokevirtual 308, 3) := by decide +kernel
theorem dX11_will_57 : decode cX11_will 57 = .ok (.iload_n 2, 1) := by decide +kernel
theorem dX11_will_58 : decode cX11_will 58 = .ok (.ifCond .ne 13, 3) := by decide +kernel
theorem dX11_will_61 : decode cX11_will 61 = .ok (.aload_n 0, 1) := by decide +kernel
theorem dX11_will_62 : decode cX11_will 62 = .ok (.ldc_w 312, 3) := by decide +kernel
theorem dX11_will_65 : decode cX11_will 65 = .ok (.invokevirtual 314, 3) := by decide +kernel
theorem dX11_will_68 : decode cX11_will 68 = .ok (.goto 50, 3) := by decide +kernel
theorem dX11_will_71 : decode cX11_will 71 = .ok (.aload_n 0, 1) := by decide +kernel
theorem dX11_will_72 : decode cX11_will 72 = .ok (.ldc_w 317, 3) := by decide +kernel
theorem dX11_will_75 : decode cX11_will 75 = .ok (.invokevirtual 314, 3) := by decide +kernel
theorem dX11_will_78 : decode cX11_will 78 = .ok (.aload_n 0, 1) := by decide +kernel
theorem dX11_will_79 : decode cX11_will 79 = .ok (.iload_n 2, 1) := by decide +kernel
theorem dX11_will_80 : decode cX11_will 80 = .ok (.invokevirtual 319, 3) := by decide +kernel
theorem dX11_will_83 : decode cX11_will 83 = .ok (.iload_n 3, 1) := by decide +kernel
theorem dX11_will_84 : decode cX11_will 84 = .ok (.iconst (-1), 1) := by decide +kernel
theorem dX11_will_85 : decode cX11_will 85 = .ok (.if_icmp .ne 13, 3) := by decide +kernel
theorem dX11_will_88 : decode cX11_will 88 = .ok (.aload_n 0, 1) := by decide +kernel
theorem dX11_will_89 : decode cX11_will 89 = .ok (.ldc_w 322, 3) := by decide +kernel
theorem dX11_will_92 : decode cX11_will 92 = .ok (.invokevirtual 314, 3) := by decide +kernel
theorem dX11_will_95 : decode cX11_will 95 = .ok (.goto 23, 3) := by decide +kernel
theorem dX11_will_98 : decode cX11_will 98 = .ok (.aload_n 0, 1) := by decide +kernel
theorem dX11_will_99 : decode cX11_will 99 = .ok (.ldc_w 324, 3) := by decide +kernel
theorem dX11_will_102 : decode cX11_will 102 = .ok (.invokevirtual 314, 3) := by decide +kernel
theorem dX11_will_105 : decode cX11_will 105 = .ok (.aload_n 0, 1) := by decide +kernel
theorem dX11_will_106 : decode cX11_will 106 = .ok (.aload_n 0, 1) := by decide +kernel
theorem dX11_will_107 : decode cX11_will 107 = .ok (.getfield 19, 3) := by decide +kernel
theorem dX11_will_110 : decode cX11_will 110 = .ok (.getfield 304, 3) := by decide +kernel
theorem dX11_will_113 : decode cX11_will 113 = .ok (.iload_n 3, 1) := by decide +kernel
theorem dX11_will_114 : decode cX11_will 114 = .ok (.laload, 1) := by decide +kernel
theorem dX11_will_115 : decode cX11_will 115 = .ok (.invokevirtual 308, 3) := by decide +kernel
theorem dX11_will_118 : decode cX11_will 118 = .ok (.aload_n 0, 1) := by decide +kernel
theorem dX11_will_119 : decode cX11_will 119 = .ok (.getfield 97, 3) := by decide +kernel
theorem dX11_will_122 : decode cX11_will 122 = .ok (.ireturn, 1) := by decide +kernel
theorem dX11_write_0 : decode cX11_write 0 = .ok (.iconst 0, 1) := by decide +kernel
theorem dX11_write_1 : decode cX11_write 1 = .ok (.istore_n 2, 1) := by decide +kernel
theorem dX11_write_2 : decode cX11_write 2 = .ok (.iload_n 2, 1) := by decide +kernel
theorem dX11_write_3 : decode cX11_write 3 = .ok (.aload_n 1, 1) := by decide +kernel
theorem dX11_write_4 : decode cX11_write 4 = .ok (.invokevirtual 326, 3) := by decide +kernel
theorem dX11_write_7 : decode cX11_write 7 = .ok (.if_icmp .ge 18, 3) := by decide +kernel
theorem dX11_write_10 : decode cX11_write 10 = .ok (.aload_n 0, 1) := by decide +kernel
theorem dX11_write_11 : decode cX11_write 11 = .ok (.aload_n 1, 1) := by decide +kernel
theorem dX11_write_12 : decode cX11_write 12 = .ok (.iload_n 2, 1) := by decide +kernel
theorem dX11_write_13 : decode cX11_write 13 = .ok (.invokevirtual 330, 3) := by decide +kernel
theorem dX11_write_16 : decode cX11_write 16 = .ok (.invokevirtual 334, 3) := by decide +kernel
theorem dX11_write_19 : decode cX11_write 19 = .ok (.iinc 2 1, 3) := by decide +kernel
theorem dX11_write_22 : decode cX11_write 22 = .ok (.goto (-20), 3) := by decide +kernel
theorem dX11_write_25 : decode cX11_write 25 = .ok (.return_, 1) := by decide +kernel
theorem dX11_writeNumber_0 : decode cX11_writeNumber 0 = .ok (.iconst 1, 1) := by decide +kernel
theorem dX11_writeNumber_1 : decode cX11_writeNumber 1 = .ok (.istore_n 2, 1) := by decide +kernel
theorem dX11_writeNumber_2 : decode cX11_writeNumber 2 = .ok (.iconst 0, 1) := by decide +kernel
theorem dX11_writeNumber_3 : decode cX11_writeNumber 3 = .ok (.istore_n 3, 1) := by decide +kernel
theorem dX11_writeNumber_4 : decode cX11_writeNumber 4 = .ok (.iload_n 3, 1) := by decide +kernel
theorem dX11_writeNumber_5 : decode cX11_writeNumber 5 = .ok (.bipush 8, 2) := by decide +kernel
theorem dX11_writeNumber_7 : decode cX11_writeNumber 7 = .ok (.if_icmp .ge 22, 3) := by decide +kernel
theorem dX11_writeNumber_10 : decode cX11_writeNumber 10 = .ok (.iload_n 1, 1) := by decide +kernel
theorem dX11_writeNumber_11 : decode cX11_writeNumber 11 = .ok (.iload_n 2, 1) := by decide +kernel
theorem dX11_writeNumber_12 : decode cX11_writeNumber 12 = .ok (.idiv, 1) := by decide +kernel
theorem dX11_writeNumber_13 : decode cX11_writeNumber 13 = .ok (.bipush 10, 2) := by decide +kernel
theorem dX11_writeNumber_15 : decode cX11_writeNumber 15 = .ok (.if_icmp .lt 14, 3) := by decide +kernel
theorem dX11_writeNumber_18 : decode cX11_writeNumber 18 = .ok (.iload_n 2, 1) := by decide +kernel
theorem dX11_writeNumber_19 : decode cX11_writeNumber 19 = .ok (.bipush 10, 2) := by decide +kernel
theorem dX11_writeNumber_21 : decode cX11_writeNumber 21 = .ok (.imul, 1) := by decide +kernel
theorem dX11_writeNumber_22 : decode cX11_writeNumber 22 = .ok (.istore_n 2, 1) := by decide +kernel
theorem dX11_writeNumber_23 : decode cX11_writeNumber 23 = .ok (.iinc 3 1, 3) := by decide +kernel
theorem dX11_writeNumber_26 : decode cX11_writeNumber 26 = .ok (.goto (-22), 3) := by decide +kernel
theorem dX11_writeNumber_29 : decode cX11_writeNumber 29 = .ok (.iconst 0, 1) := by decide +kernel
theorem dX11_writeNumber_30 : decode cX11_writeNumber 30 = .ok (.istore_n 3, 1) := by decide +kernel
theorem dX11_writeNumber_31 : decode cX11_writeNumber 31 = .ok (.iload_n 3, 1) := by decide +kernel
theorem dX11_writeNumber_32 : decode cX11_writeNumber 32 = .ok (.bipush 9, 2) := by decide +kernel
theorem dX11_writeNumber_34 : decode cX11_writeNumber 34 = .ok (.if_icmp .ge 31, 3) := by decide +kernel
theorem dX11_writeNumber_37 : decode cX11_writeNumber 37 = .ok (.iload_n 2, 1) := by decide +kernel
theorem dX11_writeNumber_38 : decode cX11_writeNumber 38 = .ok (.ifCond .le 27, 3) := by decide +kernel
theorem dX11_writeNumber_41 : decode cX11_writeNumber 41 = .ok (.aload_n 0, 1) := by decide +kernel
theorem dX11_writeNumber_42 : decode cX11_writeNumber 42 = .ok (.bipush 48, 2) := by decide +kernel
theorem dX11_writeNumber_44 : decode cX11_writeNumber 44 = .ok (.iload_n 1, 1) := by decide +kernel
theorem dX11_writeNumber_45 : decode cX11_writeNumber 45 = .ok (.iload_n 2, 1) := by decide +kernel
theorem dX11_writeNumber_46 : decode cX11_writeNumber 46 = .ok (.idiv, 1) := by decide +kernel
theorem dX11_writeNumber_47 : decode cX11_writeNumber 47 = .ok (.bipush 10, 2) := by decide +kernel
theorem dX11_writeNumber_49 : decode cX11_writeNumber 49 = .ok (.irem, 1) := by decide +kernel
theorem dX11_writeNumber_50 : decode cX11_writeNumber 50 = .ok (.iadd, 1) := by decide +kernel
theorem dX11_writeNumber_51 : decode cX11_writeNumber 51 = .ok (.invokevirtual 334, 3) := by decide +kernel
theorem dX11_writeNumber_54 : decode cX11_writeNumber 54 = .ok (.iload_n 2, 1) := by decide +kernel
theorem dX11_writeNumber_55 : decode cX11_writeNumber 55 = .ok (.bipush 10, 2) := by decide +kernel
theorem dX11_writeNumber_57 : decode cX11_writeNumber 57 = .ok (.idiv, 1) := by decide +kernel
theorem dX11_writeNumber_58 : decode cX11_writeNumber 58 = .ok (.istore_n 2, 1) := by decide +kernel
theorem dX11_writeNumber_59 : decode cX11_writeNumber 59 = .ok (.iinc 3 1, 3) := by decide +kernel
theorem dX11_writeNumber_62 : decode cX11_writeNumber 62 = .ok (.goto (-31), 3) := by decide +kernel
theorem dX11_writeNumber_65 : decode cX11_writeNumber 65 = .ok (.return_, 1) := by decide +kernel
theorem Es_.callL {k v N : Nat} {f : Nat → Int32} {A : Nat → Prop} {s : State} (h : Es_ k v N f A s) : ∀ (H : Heap) (locs : List Loc) (U : State), va_S A s.heap H locs → U.heap = H → s.WarmedH U.vm → Es_ k v N f A U := fun H locs U hS hU hW => h.go hW.alike (fun a h1 h2 => by rw [hU]; exact hS.2.1 a h1 h2) (fun _ h => h)
/-- the texts of a will -/
def Ew_ (k0 v0 k1 v1 k2 v2 k3 v3 : Nat) (f0 f1 f2 f3 : Nat → Int32) (A : Nat → Prop) (U : State) : Prop := (vk_R RX11 312 " leaves nothing" k0 U ∧ Es_ k0 v0 15 f0 A U) ∧ (vk_R RX11 317 " leaves " k1 U ∧ Es_ k1 v1 8 f1 A U) ∧ (vk_R RX11 322 " to nobody" k2 U ∧ Es_ k2 v2 10 f2 A U) ∧ (vk_R RX11 324 " to " k3 U ∧ Es_ k3 v3 4 f3 A U)
theorem Ew_.go {k0 v0 k1 v1 k2 v2 k3 v3 : Nat} {f0 f1 f2 f3 : Nat → Int32} {A B : Nat → Prop} {s U : State} (h : Ew_ k0 v0 k1 v1 k2 v2 k3 v3 f0 f1 f2 f3 A s) (hW : s.WarmedH U.vm) (hq : ∀ a : Nat, a < s.heap.size → ¬ A a → U.heap[a]? = s.heap[a]?) (hB : ∀ q, B q → A q) : Ew_ k0 v0 k1 v1 k2 v2 k3 v3 f0 f1 f2 f3 B U := ⟨⟨h.1.1.warm hW, h.1.2.go hW.alike hq hB⟩, ⟨h.2.1.1.warm hW, h.2.1.2.go hW.alike hq hB⟩, ⟨h.2.2.1.1.warm hW, h.2.2.1.2.go hW.alike hq hB⟩, ⟨h.2.2.2.1.warm hW, h.2.2.2.2.go hW.alike hq hB⟩⟩
theorem Ew_.blind {k0 v0 k1 v1 k2 v2 k3 v3 : Nat} {f0 f1 f2 f3 : Nat → Int32} {A : Nat → Prop} : ∀ (u U : State), u.vm = U.vm → u.heap = U.heap → Ew_ k0 v0 k1 v1 k2 v2 k3 v3 f0 f1 f2 f3 A u → Ew_ k0 v0 k1 v1 k2 v2 k3 v3 f0 f1 f2 f3 A U := fun u U hv hh h => ⟨⟨h.1.1.same hv.symm, Es_.blind u U hv hh h.1.2⟩, ⟨h.2.1.1.same hv.symm, Es_.blind u U hv hh h.2.1.2⟩, ⟨h.2.2.1.1.same hv.symm, Es_.blind u U hv hh h.2.2.1.2⟩, ⟨h.2.2.2.1.same hv.symm, Es_.blind u U hv hh h.2.2.2.2⟩⟩
set_option maxRecDepth 100000 in
set_option maxHeartbeats 8000000 in
theorem c_X11_writeByte_w {l : Launch} {D : va_G} {cy : Nat → ClassId} {L : List Nat} {κ ln : Nat → Nat} {R : Nat → Nat → Option Nat} {I : Nat → Nat → Int32} {J : Nat → Nat → Int64} {ow : Nat → Nat × Nat} (W9 : ∀ a ∈ L, Shp L κ ln R ow a) {x : Nat} (hLx : x ∈ L) (hkx : κ x = 11) (a0 : Int32) (hU : Iv L κ R ow I) : CtV l yX11_writeByte cX11_writeByte 2 none { frames := 0, cells := 0, slots := 0, locals := 0 } D cy L κ ln R I J [.ref x, .int a0] (fun I2 J2 => Iv L κ R ow I2 ∧ Fq L κ ow [1114, 77300] I I2 ∧ Fq L κ ow [] J J2) := by
  refine CtV.of (by decide +kernel) (Nat.le_of_ble_eq_true rfl) ?_
  intro p e s m below meth c B K
  have C := B.1
  have hF : Fq L κ ow [1114, 77300] I I := fq_rf
  have hG : Fq L κ ow [] J J := fq_rf
  obtain ⟨b_1, hb_1, hb_1L, hb_1k, hb_1n, hb_1o⟩ := shp_a (W9 x hLx) hkx 13 13 40 rfl (by decide)
  refine g_lo (is := [0, 1]) (lo2 := [(0, .ref x), (1, .int a0)]) rfl ?_
  refine g_aload_n C 0 dX11_writeByte_0 rfl rfl ?_
  obtain ⟨x_2, hx_2, rx_2⟩ := ex_get (I := I) (a := x) (j := 14) (lo := 0) (hi := 40) hU.1 hLx (ro_o hkx (by decide)) rfl
  refine g_getI C K hLx hkx f_11_97 (v := x_2) hx_2 dX11_writeByte_1 ?_
  refine g_aload_n C 0 dX11_writeByte_4 rfl rfl ?_
  refine g_getR C K hLx hkx f_11_93 hb_1 dX11_writeByte_5 ?_
  refine g_alenB C K hb_1L hb_1k (v := 40) (by rw [hb_1n]; rfl) dX11_writeByte_8 ?_
  refine g_icmp_ge C (tgt := 33) dX11_writeByte_9 (by decide) (fun h_3 => ?_) (fun h_3 => ?_)
  · skip
    have r_4 := le_r (h_3) rc_40 rx_2
    exact g_vret B K rfl ⟨hU, hF, hG⟩ dX11_writeByte_33
  · skip
    have r_5 := lt_l (hi := 39) (nle h_3) rx_2 rc_40 (by decide)
    refine g_aload_n C 0 dX11_writeByte_12 rfl rfl ?_
    refine g_getR C K hLx hkx f_11_93 hb_1 dX11_writeByte_13 ?_
    refine g_aload_n C 0 dX11_writeByte_16 rfl rfl ?_
    refine g_getI C K hLx hkx f_11_97 (v := x_2) hx_2 dX11_writeByte_17 ?_
    refine g_iload_n C 1 dX11_writeByte_20 rfl rfl ?_
    obtain ⟨x_6, hx_6, rx_6⟩ := ex_b2 (x := a0)
    refine g_i2b C (v := x_6) dX11_writeByte_21 hx_6 ?_
    refine h_bast C K hb_1L hb_1k (x_2.toNatClampNeg) (rfl) (ix_0 r_5 (by decide)) (ix_lt r_5 (by decide) hb_1n (by decide)) dX11_writeByte_22 (fun I_7 hI_7 => ?_)
    have hU_8 := iv_put W9 hU hI_7 (ro_a hb_1k (by decide) hb_1o hkx rfl) (lo := (-128)) (hi := 127) (rfl) (nar_b _) rfl
    have hF_9 := fq_puta hF hI_7 (ro_a hb_1k (by decide) hb_1o hkx rfl) (by decide) (by decide)
    refine g_aload_n C 0 dX11_writeByte_23 rfl rfl ?_
    refine g_dup C dX11_writeByte_24 rfl ?_
    refine g_getI C K hLx hkx f_11_97 (v := x_2) (kp_k (κ := κ) hI_7 (by rw [hkx, hb_1k]; decide) hx_2) dX11_writeByte_25 ?_
    refine g_iconst C (v := 1) dX11_writeByte_28 (by decide) ?_
    obtain ⟨x_10, hx_10, rx_10, tx_10⟩ := ex_add 1 40 r_5 rc_1 (by decide) (by decide) (by decide) (by decide)
    refine g_iadd C (v := x_10) dX11_writeByte_29 hx_10 ?_
    refine h_putI C K hLx hkx f_11_97 p_11_14 dX11_writeByte_30 (fun I_11 hI_11 => ?_)
    have hU_12 := iv_put W9 hU_8 hI_11 (ro_o hkx (by decide)) (lo := 0) (hi := 40) (rfl) (rg_w rx_10 (by decide) (by decide)) rfl
    have hF_13 := fq_puto hF_9 hI_11 hkx (by decide) (by decide)
    exact g_vret B K rfl ⟨hU_12, hF_13, hG⟩ dX11_writeByte_33
set_option maxRecDepth 100000 in
set_option maxHeartbeats 8000000 in
theorem c_X11_writeNumber {l : Launch} {D : va_G} {cy : Nat → ClassId} {L : List Nat} {κ ln : Nat → Nat} {R : Nat → Nat → Option Nat} {I : Nat → Nat → Int32} {J : Nat → Nat → Int64} {ow : Nat → Nat × Nat} (W9 : ∀ a ∈ L, Shp L κ ln R ow a) {x : Nat} (hLx : x ∈ L) (hkx : κ x = 11) (a0 : Int32) (hU : Iv L κ R ow I) : CtV l yX11_writeNumber cX11_writeNumber 4 none { frames := 1, cells := 0, slots := 0, locals := 21 } D cy L κ ln R I J [.ref x, .int a0] (fun I2 J2 => Iv L κ R ow I2 ∧ Fq L κ ow [1114, 77300] I I2 ∧ Fq L κ ow [] J J2) := by
  refine CtV.of (by decide +kernel) (Nat.le_of_ble_eq_true rfl) ?_
  intro p e s m below meth c B K
  have C := B.1
  have hF : Fq L κ ow [1114, 77300] I I := fq_rf
  have hG : Fq L κ ow [] J J := fq_rf
  refine g_lo (is := [0, 1]) (lo2 := [(0, .ref x), (1, .int a0)]) rfl ?_
  have l_31 : ∀ (n_31 : Nat) (I_1 : Nat → Nat → Int32) (J_2 : Nat → Nat → Int64) (hU_3 : Iv L κ R ow I_1) (hF_4 : Fq L κ ow [1114, 77300] I I_1) (hG_5 : Fq L κ ow [] J J_2) (v_6 : Int32) (v_7 : Int32) (rv_7 : Rg 0 2147483647 v_7) (v_8 : Int32) (rv_8 : Rg 0 9 v_8) (hm_9 : 9 < (v_8 : Int32).toInt + (n_31 : Int)), WG p l e { frames := 1, cells := 0, slots := 0, locals := 21 } s m ([.ref x, .int a0] : List Value).toArray below meth c 4 0 0 (MQ below (Qv_ D cy L κ ln R (fun I2 J2 => Iv L κ R ow I2 ∧ Fq L κ ow [1114, 77300] I I2 ∧ Fq L κ ow [] J J2)) ([.ref x, .int a0] : List Value).toArray s 0 0 (Al_ L)) D cy (Al_ L) s.heap L κ ln R I_1 J_2 31 [(0, .ref x), (1, .int v_6), (2, .int v_7), (3, .int v_8)] [] := by
    intro n_31
    induction n_31 with
    | zero =>
      intro I_1 J_2 hU_3 hF_4 hG_5 v_6 v_7 rv_7 v_8 rv_8 hm_9
      exact ms_0 rv_8 hm_9
    | succ n_31 ih_31 =>
      intro I_1 J_2 hU_3 hF_4 hG_5 v_6 v_7 rv_7 v_8 rv_8 hm_9
      refine g_iload_n C 3 dX11_writeNumber_31 rfl rfl ?_
      refine g_bipush C (v := 9) dX11_writeNumber_32 (by decide) ?_
      refine g_icmp_ge C (tgt := 65) dX11_writeNumber_34 (by decide) (fun h_10 => ?_) (fun h_10 => ?_)
      · skip
        have r_11 := le_r (h_10) rc_9 rv_8
        exact g_vret B K rfl ⟨hU_3, hF_4, hG_5⟩ dX11_writeNumber_65
      · skip
        have r_12 := lt_l (hi := 8) (nle h_10) rv_8 rc_9 (by decide)
        refine g_iload_n C 2 dX11_writeNumber_37 rfl rfl ?_
        refine g_if_le C (tgt := 65) dX11_writeNumber_38 (by decide) (fun h_13 => ?_) (fun h_13 => ?_)
        · skip
          have r_14 := le_l (h_13) rv_7 rc_0
          exact g_vret B K rfl ⟨hU_3, hF_4, hG_5⟩ dX11_writeNumber_65
        · skip
          have r_15 := lt_r (lo := 1) (nle h_13) rc_0 rv_7 (by decide)
          refine g_aload_n C 0 dX11_writeNumber_41 rfl rfl ?_
          refine g_bipush C (v := 48) dX11_writeNumber_42 (by decide) ?_
          refine g_iload_n C 1 dX11_writeNumber_44 rfl rfl ?_
          refine g_iload_n C 2 dX11_writeNumber_45 rfl rfl ?_
          obtain ⟨x_16, hx_16, rx_16⟩ := ex_any (z0 := v_6 / v_7)
          refine g_idiv C (v := x_16) dX11_writeNumber_46 (rg_ne0 r_15 (by decide)) hx_16 ?_
          refine g_bipush C (v := 10) dX11_writeNumber_47 (by decide) ?_
          obtain ⟨x_17, hx_17, rx_17⟩ := ex_any (z0 := x_16 - x_16 / 10 * 10)
          refine g_irem C (v := x_17) dX11_writeNumber_49 (rg_ne0 rc_10 (by decide)) hx_17 ?_
          obtain ⟨x_18, hx_18, rx_18⟩ := ex_any (z0 := 48 + x_17)
          refine g_iadd C (v := x_18) dX11_writeNumber_50 hx_18 ?_
          refine g_callVV C K (c_X11_writeByte_w W9 hLx hkx x_18  hU_3) hLx hkx (by decide) rfl v_11_334 rfl ⟨rfl, rfl⟩ ⟨Nat.le_of_ble_eq_true rfl, Nat.le_of_ble_eq_true rfl⟩ (Nat.le_of_ble_eq_true rfl) ⟨Nat.le_of_ble_eq_true rfl, Nat.le_of_ble_eq_true rfl⟩ dX11_writeNumber_51 rfl (st := []) (fun I_20 J_21 h_22 => ?_)
          obtain ⟨hUI_20, hFI_20, hGJ_21⟩ := h_22
          have hF_23 := fq_tr hF_4 hFI_20 (by decide)
          have hG_24 := fq_tr hG_5 hGJ_21 (by decide)
          refine g_iload_n C 2 dX11_writeNumber_54 rfl rfl ?_
          refine g_bipush C (v := 10) dX11_writeNumber_55 (by decide) ?_
          obtain ⟨x_25, hx_25, rx_25⟩ := ex_div (b := 2147483647) (d := 10) (rg_w r_15 (by decide) (by decide)) (rg_w rc_10 (by decide) (by decide))
          refine g_idiv C (v := x_25) dX11_writeNumber_57 (rg_ne0 rc_10 (by decide)) hx_25 ?_
          refine g_istore_n C dX11_writeNumber_58 rfl (by decide) (lo2 := [(2, .int x_25), (0, .ref x), (1, .int v_6), (3, .int v_8)]) rfl ?_
          obtain ⟨x_26, hx_26, rx_26, tx_26⟩ := ex_add (y := 1) 1 9 r_12 rc_1 (by decide) (by decide) (by decide) (by decide)
          refine g_iinc C dX11_writeNumber_59 (k := 3) (v := x_26) rfl hx_26 (by decide) (lo2 := [(3, .int x_26), (2, .int x_25), (0, .ref x), (1, .int v_6)]) rfl ?_
          refine g_goto C (tgt := 31) dX11_writeNumber_62 (by decide) ?_
          refine g_lo (is := [2, 3, 1, 0]) (lo2 := [(0, .ref x), (1, .int v_6), (2, .int x_25), (3, .int x_26)]) rfl ?_
          exact ih_31 I_20 J_21 hUI_20 hF_23 hG_24 v_6 x_25 (rx_25) x_26 (rg_w rx_26 (by decide) (by decide)) (ms_1 hm_9 (ti_k tx_26 rc_1) (by decide))
  have j_29 : ∀ (I_27 : Nat → Nat → Int32) (J_28 : Nat → Nat → Int64) (hU_29 : Iv L κ R ow I_27) (hF_30 : Fq L κ ow [1114, 77300] I I_27) (hG_31 : Fq L κ ow [] J J_28) (v_32 : Int32) (v_33 : Int32) (rv_33 : Rg 1 2147483647 v_33) (v_34 : Int32) (rv_34 : Rg 0 8 v_34), WG p l e { frames := 1, cells := 0, slots := 0, locals := 21 } s m ([.ref x, .int a0] : List Value).toArray below meth c 4 0 0 (MQ below (Qv_ D cy L κ ln R (fun I2 J2 => Iv L κ R ow I2 ∧ Fq L κ ow [1114, 77300] I I2 ∧ Fq L κ ow [] J J2)) ([.ref x, .int a0] : List Value).toArray s 0 0 (Al_ L)) D cy (Al_ L) s.heap L κ ln R I_27 J_28 29 [(0, .ref x), (1, .int v_32), (2, .int v_33), (3, .int v_34)] [] := by
    intro I_27 J_28 hU_29 hF_30 hG_31 v_32 v_33 rv_33 v_34 rv_34
    refine g_iconst C (v := 0) dX11_writeNumber_29 (by decide) ?_
    refine g_istore_n C dX11_writeNumber_30 rfl (by decide) (lo2 := [(3, .int 0), (0, .ref x), (1, .int v_32), (2, .int v_33)]) rfl ?_
    refine g_lo (is := [1, 2, 3, 0]) (lo2 := [(0, .ref x), (1, .int v_32), (2, .int v_33), (3, .int 0)]) rfl ?_
    exact l_31 10 I_27 J_28 hU_29 hF_30 hG_31 v_32 v_33 (rg_w rv_33 (by decide) (by decide)) 0 (rg_w rc_0 (by decide) (by decide)) (ms_s (a := 0) (b := 9) (N := 10) (rg_w rc_0 (by decide) (by decide)) (by decide))
  have l_4 : ∀ (n_4 : Nat) (I_35 : Nat → Nat → Int32) (J_36 : Nat → Nat → Int64) (hU_37 : Iv L κ R ow I_35) (hF_38 : Fq L κ ow [1114, 77300] I I_35) (hG_39 : Fq L κ ow [] J J_36) (v_40 : Int32) (v_41 : Int32) (rv_41 : Rg 1 2147483647 v_41) (v_42 : Int32) (rv_42 : Rg 0 8 v_42) (hm_43 : 8 < (v_42 : Int32).toInt + (n_4 : Int)), WG p l e { frames := 1, cells := 0, slots := 0, locals := 21 } s m ([.ref x, .int a0] : List Value).toArray below meth c 4 0 0 (MQ below (Qv_ D cy L κ ln R (fun I2 J2 => Iv L κ R ow I2 ∧ Fq L κ ow [1114, 77300] I I2 ∧ Fq L κ ow [] J J2)) ([.ref x, .int a0] : List Value).toArray s 0 0 (Al_ L)) D cy (Al_ L) s.heap L κ ln R I_35 J_36 4 [(0, .ref x), (1, .int v_40), (2, .int v_41), (3, .int v_42)] [] := by
    intro n_4
    induction n_4 with
    | zero =>
      intro I_35 J_36 hU_37 hF_38 hG_39 v_40 v_41 rv_41 v_42 rv_42 hm_43
      exact ms_0 rv_42 hm_43
    | succ n_4 ih_4 =>
      intro I_35 J_36 hU_37 hF_38 hG_39 v_40 v_41 rv_41 v_42 rv_42 hm_43
      refine g_iload_n C 3 dX11_writeNumber_4 rfl rfl ?_
      refine g_bipush C (v := 8) dX11_writeNumber_5 (by decide) ?_
      refine g_icmp_ge C (tgt := 29) dX11_writeNumber_7 (by decide) (fun h_44 => ?_) (fun h_44 => ?_)
      · skip
        have r_45 := le_r (h_44) rc_8 rv_42
        refine g_lo (is := [0, 1, 2, 3]) (lo2 := [(0, .ref x), (1, .int v_40), (2, .int v_41), (3, .int v_42)]) rfl ?_
        exact j_29 I_35 J_36 hU_37 hF_38 hG_39 v_40 v_41 (rv_41) v_42 (rg_w r_45 (by decide) (by decide))
      · skip
        have r_46 := lt_l (hi := 7) (nle h_44) rv_42 rc_8 (by decide)
        refine g_iload_n C 1 dX11_writeNumber_10 rfl rfl ?_
        refine g_iload_n C 2 dX11_writeNumber_11 rfl rfl ?_
        obtain ⟨x_47, hx_47, rx_47⟩ := ex_any (z0 := v_40 / v_41)
        refine g_idiv C (v := x_47) dX11_writeNumber_12 (rg_ne0 rv_41 (by decide)) hx_47 ?_
        refine g_bipush C (v := 10) dX11_writeNumber_13 (by decide) ?_
        refine g_icmp_lt C (tgt := 29) dX11_writeNumber_15 (by decide) (fun h_48 => ?_) (fun h_48 => ?_)
        · skip
          have r_49 := lt_l (hi := 9) (h_48) rx_47 rc_10 (by decide)
          refine g_lo (is := [0, 1, 2, 3]) (lo2 := [(0, .ref x), (1, .int v_40), (2, .int v_41), (3, .int v_42)]) rfl ?_
          exact j_29 I_35 J_36 hU_37 hF_38 hG_39 v_40 v_41 (rv_41) v_42 (rg_w r_46 (by decide) (by decide))
        · skip
          have r_50 := le_r (nlt h_48) rc_10 rx_47
          have r_51 := dv_10 (rv_41) hx_47 (nlt h_48)
          refine g_iload_n C 2 dX11_writeNumber_18 rfl rfl ?_
          refine g_bipush C (v := 10) dX11_writeNumber_19 (by decide) ?_
          obtain ⟨x_52, hx_52, rx_52⟩ := ex_mulk 10 2147483640 r_51 rc_10 (by decide) (by decide) (by decide) (by decide) (by decide)
          refine g_imul C (v := x_52) dX11_writeNumber_21 hx_52 ?_
          refine g_istore_n C dX11_writeNumber_22 rfl (by decide) (lo2 := [(2, .int x_52), (0, .ref x), (1, .int v_40), (3, .int v_42)]) rfl ?_
          obtain ⟨x_53, hx_53, rx_53, tx_53⟩ := ex_add (y := 1) 1 8 r_46 rc_1 (by decide) (by decide) (by decide) (by decide)
          refine g_iinc C dX11_writeNumber_23 (k := 3) (v := x_53) rfl hx_53 (by decide) (lo2 := [(3, .int x_53), (2, .int x_52), (0, .ref x), (1, .int v_40)]) rfl ?_
          refine g_goto C (tgt := 4) dX11_writeNumber_26 (by decide) ?_
          refine g_lo (is := [2, 3, 1, 0]) (lo2 := [(0, .ref x), (1, .int v_40), (2, .int x_52), (3, .int x_53)]) rfl ?_
          exact ih_4 I_35 J_36 hU_37 hF_38 hG_39 v_40 x_52 (rg_w rx_52 (by decide) (by decide)) x_53 (rg_w rx_53 (by decide) (by decide)) (ms_1 hm_43 (ti_k tx_53 rc_1) (by decide))
  refine g_iconst C (v := 1) dX11_writeNumber_0 (by decide) ?_
  refine g_istore_n C dX11_writeNumber_1 rfl (by decide) (lo2 := [(2, .int 1), (0, .ref x), (1, .int a0)]) rfl ?_
  refine g_iconst C (v := 0) dX11_writeNumber_2 (by decide) ?_
  refine g_istore_n C dX11_writeNumber_3 rfl (by decide) (lo2 := [(3, .int 0), (2, .int 1), (0, .ref x), (1, .int a0)]) rfl ?_
  refine g_lo (is := [2, 3, 1, 0]) (lo2 := [(0, .ref x), (1, .int a0), (2, .int 1), (3, .int 0)]) rfl ?_
  exact l_4 9 I J hU hF hG a0 1 (rg_w rc_1 (by decide) (by decide)) 0 (rg_w rc_0 (by decide) (by decide)) (ms_s (a := 0) (b := 8) (N := 9) (rg_w rc_0 (by decide) (by decide)) (by decide))
set_option maxRecDepth 100000 in
set_option maxHeartbeats 8000000 in
theorem c_X11_write {l : Launch} {D : va_G} {cy : Nat → ClassId} {L : List Nat} {κ ln : Nat → Nat} {R : Nat → Nat → Option Nat} {I : Nat → Nat → Int32} {J : Nat → Nat → Int64} {ow : Nat → Nat × Nat} {k v N : Nat} {f : Nat → Int32} (hN : N < 2147483648) (W9 : ∀ a ∈ L, Shp L κ ln R ow a) {x : Nat} (hLx : x ∈ L) (hkx : κ x = 11) (hU : Iv L κ R ow I) : CxV l yX11_write cX11_write 3 none { frames := 5, cells := 0, slots := 0, locals := 300 } D cy L κ ln R I J (Es_ k v N f (Al_ L)) [.ref x, .ref k] (fun I2 J2 => Iv L κ R ow I2 ∧ Fq L κ ow [1114, 77300] I I2 ∧ Fq L κ ow [] J J2) := by
  refine CxV.of (by decide +kernel) (Nat.le_of_ble_eq_true rfl) ?_
  intro p e s m below meth c B K hX
  have C := B.1
  have lp : ∀ (n i : Nat), i + n = N → ∀ (I1 : Nat → Nat → Int32) (J1 : Nat → Nat → Int64), Iv L κ R ow I1 → Fq L κ ow [1114, 77300] I I1 → Fq L κ ow [] J J1 → WG p l e { frames := 5, cells := 0, slots := 0, locals := 300 } s m ([.ref x, .ref k] : List Value).toArray below meth c 3 0 0 (MQ below (Qv_ D cy L κ ln R (fun I2 J2 => Iv L κ R ow I2 ∧ Fq L κ ow [1114, 77300] I I2 ∧ Fq L κ ow [] J J2)) ([.ref x, .ref k] : List Value).toArray s 0 0 (Al_ L)) D cy (Al_ L) s.heap L κ ln R I1 J1 2 [(2, .int (nI i)), (0, .ref x), (1, .ref k)] [] := by
    intro n
    induction n with
    | zero =>
      intro i hi I1 J1 h1 h2 h3
      refine g_iload_n C 0 dX11_write_2 rfl rfl ?_
      refine g_aload_n C 2 dX11_write_3 rfl rfl ?_
      refine e_callVI C K (j_length (k := k) (v := v) (N := N) (f := f) hN) Es_.blind hX.call hX.recv ev11_length rfl ⟨rfl, rfl⟩ ⟨Nat.le_of_ble_eq_true rfl, Nat.le_of_ble_eq_true rfl⟩ (Nat.le_of_ble_eq_true rfl) ⟨Nat.le_of_ble_eq_true rfl, Nat.le_of_ble_eq_true rfl⟩ dX11_write_4 rfl (st := [.int (nI i)]) (fun r hr => ?_)
      subst hr
      refine t_icmp_ge C (tgt := 25) (lt_ge (n := i) (k := N) (by omega) (by omega)) dX11_write_7 (by decide) ?_
      exact g_vret B K rfl ⟨h1, h2, h3⟩ dX11_write_25
    | succ n ih =>
      intro i hi I1 J1 h1 h2 h3
      refine g_iload_n C 0 dX11_write_2 rfl rfl ?_
      refine g_aload_n C 2 dX11_write_3 rfl rfl ?_
      refine e_callVI C K (j_length (k := k) (v := v) (N := N) (f := f) hN) Es_.blind hX.call hX.recv ev11_length rfl ⟨rfl, rfl⟩ ⟨Nat.le_of_ble_eq_true rfl, Nat.le_of_ble_eq_true rfl⟩ (Nat.le_of_ble_eq_true rfl) ⟨Nat.le_of_ble_eq_true rfl, Nat.le_of_ble_eq_true rfl⟩ dX11_write_4 rfl (st := [.int (nI i)]) (fun r hr => ?_)
      subst hr
      refine n_icmp_ge C (tgt := 25) (ln_ge (n := i) (k := N) (by omega) (by omega)) dX11_write_7 (by decide) ?_
      refine g_aload_n C 1 dX11_write_10 rfl rfl ?_
      refine g_aload_n C 2 dX11_write_11 rfl rfl ?_
      refine g_iload_n C 0 dX11_write_12 rfl rfl ?_
      refine e_callVI C K (j_charAt (k := k) (v := v) (N := N) (f := f) i (by omega) hN) Es_.blind hX.call hX.recv ev11_charAt rfl ⟨rfl, rfl⟩ ⟨Nat.le_of_ble_eq_true rfl, Nat.le_of_ble_eq_true rfl⟩ (Nat.le_of_ble_eq_true rfl) ⟨Nat.le_of_ble_eq_true rfl, Nat.le_of_ble_eq_true rfl⟩ dX11_write_13 rfl (st := [.ref x]) (fun r hr => ?_)
      refine g_callVV C K (c_X11_writeByte_w W9 hLx hkx r h1) hLx hkx (by decide) rfl v_11_334 rfl ⟨rfl, rfl⟩ ⟨Nat.le_of_ble_eq_true rfl, Nat.le_of_ble_eq_true rfl⟩ (Nat.le_of_ble_eq_true rfl) ⟨Nat.le_of_ble_eq_true rfl, Nat.le_of_ble_eq_true rfl⟩ dX11_write_16 rfl (st := []) (fun I2 J2 h => ?_)
      obtain ⟨u1, u2, u3⟩ := h
      refine g_iinc C dX11_write_19 (k := 0) (v := nI (i + 1)) rfl (nI_1 i) (by decide) (lo2 := [(2, .int (nI (i + 1))), (0, .ref x), (1, .ref k)]) rfl ?_
      refine g_goto C (tgt := 2) dX11_write_22 (by decide) ?_
      exact ih (i + 1) (by omega) I2 J2 u1 (fq_tr h2 u2 (by decide)) (fq_tr h3 u3 (by decide))
  refine g_lo (is := [0, 1]) (lo2 := [(0, .ref x), (1, .ref k)]) rfl ?_
  refine g_iconst C (v := 0) dX11_write_0 (by decide) ?_
  refine g_istore_n C dX11_write_1 rfl (by decide) (lo2 := [(2, .int (0)), (0, .ref x), (1, .ref k)]) rfl ?_
  exact lp N 0 (by omega) I J hU fq_rf fq_rf
set_option maxRecDepth 100000 in
set_option maxHeartbeats 8000000 in
theorem c_X11_will {l : Launch} {D : va_G} {cy : Nat → ClassId} {L : List Nat} {κ ln : Nat → Nat} {R : Nat → Nat → Option Nat} {I : Nat → Nat → Int32} {J : Nat → Nat → Int64} {ow : Nat → Nat × Nat} {k0 v0 k1 v1 k2 v2 k3 v3 : Nat} {f0 f1 f2 f3 : Nat → Int32} (W9 : ∀ a ∈ L, Shp L κ ln R ow a) {x : Nat} (hLx : x ∈ L) (hkx : κ x = 11) (a0 : Int32) (hU : Iv L κ R ow I) : CxI l yX11_will cX11_will 4 (some .int) { frames := 6, cells := 0, slots := 0, locals := 322 } D cy L κ ln R I J (Ew_ k0 v0 k1 v1 k2 v2 k3 v3 f0 f1 f2 f3 (Al_ L)) [.ref x, .int a0] (fun r I2 J2 => Iv L κ R ow I2 ∧ Fq L κ ow [1114, 77300] I I2 ∧ Fq L κ ow [] J J2 ∧ Rg (-1) 40 r) := by
  refine CxI.of (by decide +kernel) (Nat.le_of_ble_eq_true rfl) ?_
  intro p e s m below meth c B K hE
  obtain ⟨hE0, hE1, hE2, hE3⟩ := hE
  have C := B.1
  have hF : Fq L κ ow [1114, 77300] I I := fq_rf
  have hG : Fq L κ ow [] J J := fq_rf
  obtain ⟨b_1, hb_1, hb_1L, hb_1k⟩ := shp_o (W9 x hLx) hkx 1 8 rfl (by decide)
  obtain ⟨b_2, hb_2, hb_2L, hb_2k⟩ := shp_o (W9 x hLx) hkx 2 1 rfl (by decide)
  obtain ⟨b_3, hb_3, hb_3L, hb_3k, hb_3n, hb_3o⟩ := shp_a (W9 b_2 hb_2L) hb_2k 3 14 7 rfl (by decide)
  obtain ⟨b_4, hb_4, hb_4L, hb_4k, hb_4n, hb_4o⟩ := shp_a (W9 b_1 hb_1L) hb_1k 0 15 7 rfl (by decide)
  refine g_lo (is := [0, 1]) (lo2 := [(0, .ref x), (1, .int a0)]) rfl ?_
  refine g_aload_n C 0 dX11_will_0 rfl rfl ?_
  refine g_getR C K hLx hkx f_11_19 hb_1 dX11_will_1 ?_
  refine g_iload_n C 1 dX11_will_4 rfl rfl ?_
  refine g_callVI C K (c_X8_hasPerson W9 hb_1L hb_1k a0  hU) hb_1L hb_1k (by decide) rfl v_11_133 rfl ⟨rfl, rfl⟩ ⟨Nat.le_of_ble_eq_true rfl, Nat.le_of_ble_eq_true rfl⟩ (Nat.le_of_ble_eq_true rfl) ⟨Nat.le_of_ble_eq_true rfl, Nat.le_of_ble_eq_true rfl⟩ dX11_will_5 rfl (st := []) (fun x_5 I_6 J_7 h_8 => ?_)
  obtain ⟨rfl, rfl, rx_5, ex_5⟩ := h_8
  refine g_if_ne C (tgt := 13) dX11_will_8 (by decide) (fun h_9 => ?_) (fun h_9 => ?_)
  · skip
    have n_10 : ¬ x_5 = 0 := h_9
    have r_11 := ne_lo (lo := 1) n_10 rx_5 rc_0 rfl (by decide)
    have r_12 := rg_i (rg_all a0) ((ex_5) n_10) (lo := 0) (hi := 6) (by decide) (by decide)
    refine g_aload_n C 0 dX11_will_13 rfl rfl ?_
    refine g_getR C K hLx hkx f_11_28 hb_2 dX11_will_14 ?_
    refine g_getR C K hb_2L hb_2k f_11_166 hb_3 dX11_will_17 ?_
    refine g_iload_n C 1 dX11_will_20 rfl rfl ?_
    obtain ⟨x_13, hx_13, rx_13⟩ := ex_any (z0 := I b_3 (a0.toNatClampNeg))
    refine h_iald C K hb_3L hb_3k (v := x_13) (a0.toNatClampNeg) (rfl) (ix_0 r_12 (by decide)) (ix_lt r_12 (by decide) hb_3n (by decide)) hx_13 dX11_will_21 ?_
    refine g_istore_n C dX11_will_22 rfl (by decide) (lo2 := [(2, .int x_13), (0, .ref x), (1, .int a0)]) rfl ?_
    refine g_aload_n C 1 dX11_will_23 rfl rfl ?_
    refine g_getR C K hLx hkx f_11_28 hb_2 dX11_will_24 ?_
    refine g_iload_n C 2 dX11_will_27 rfl rfl ?_
    refine g_aload_n C 1 dX11_will_28 rfl rfl ?_
    refine g_getR C K hLx hkx f_11_28 hb_2 dX11_will_29 ?_
    obtain ⟨x_14, hx_14, rx_14⟩ := ex_get (I := I) (a := b_2) (j := 8) (lo := (-2147483648)) (hi := 2147483647) hU.1 hb_2L (ro_o hb_2k (by decide)) rfl
    refine g_getI C K hb_2L hb_2k f_11_154 (v := x_14) hx_14 dX11_will_32 ?_
    refine g_callVI C K (c_X1_heirOf W9 hb_2L hb_2k a0 x_14 (r_12) hU) hb_2L hb_2k (by decide) rfl v_11_263 rfl ⟨rfl, rfl⟩ ⟨Nat.le_of_ble_eq_true rfl, Nat.le_of_ble_eq_true rfl⟩ (Nat.le_of_ble_eq_true rfl) ⟨Nat.le_of_ble_eq_true rfl, Nat.le_of_ble_eq_true rfl⟩ dX11_will_35 rfl (st := []) (fun x_15 I_16 J_17 h_18 => ?_)
    obtain ⟨rfl, rfl, rx_15⟩ := h_18
    refine g_istore_n C dX11_will_38 rfl (by decide) (lo2 := [(3, .int x_15), (2, .int x_13), (0, .ref x), (1, .int a0)]) rfl ?_
    refine g_aload_n C 2 dX11_will_39 rfl rfl ?_
    refine g_iconst C (v := 0) dX11_will_40 (by decide) ?_
    refine h_putI C K hLx hkx f_11_97 p_11_14 dX11_will_41 (fun I_19 hI_19 => ?_)
    have hU_20 := iv_put W9 hU hI_19 (ro_o hkx (by decide)) (lo := 0) (hi := 40) (rfl) (rg_w rc_0 (by decide) (by decide)) rfl
    have hF_21 := fq_puto hF hI_19 hkx (by decide) (by decide)
    refine g_aload_n C 2 dX11_will_44 rfl rfl ?_
    refine g_aload_n C 2 dX11_will_45 rfl rfl ?_
    refine g_getR C K hLx hkx f_11_19 hb_1 dX11_will_46 ?_
    refine g_getR C K hb_1L hb_1k f_11_304 hb_4 dX11_will_49 ?_
    refine g_iload_n C 3 dX11_will_52 rfl rfl ?_
    obtain ⟨y_22, hy_22⟩ : ∃ z, J b_4 (a0.toNatClampNeg) = z := ⟨_, rfl⟩
    refine h_lald C K hb_4L hb_4k (v := y_22) (a0.toNatClampNeg) (rfl) (ix_0 r_12 (by decide)) (ix_lt r_12 (by decide) hb_4n (by decide)) hy_22 dX11_will_53 ?_
    refine g_callVV C K (c_X11_writeName W9 hLx hkx y_22  hU_20) hLx hkx (by decide) rfl v_11_308 rfl ⟨rfl, rfl⟩ ⟨Nat.le_of_ble_eq_true rfl, Nat.le_of_ble_eq_true rfl⟩ (Nat.le_of_ble_eq_true rfl) ⟨Nat.le_of_ble_eq_true rfl, Nat.le_of_ble_eq_true rfl⟩ dX11_will_54 rfl (st := []) (fun I_24 J_25 h_26 => ?_)
    obtain ⟨hUI_24, hFI_24, hGJ_25⟩ := h_26
    have hF_27 := fq_tr hF_21 hFI_24 (by decide)
    have hG_28 := fq_tr hG hGJ_25 (by decide)
    refine g_iload_n C 1 dX11_will_57 rfl rfl ?_
    refine g_if_ne C (tgt := 71) dX11_will_58 (by decide) (fun h_29 => ?_) (fun h_29 => ?_)
    · skip
      have n_30 : ¬ x_13 = 0 := h_29
      refine g_aload_n C 2 dX11_will_71 rfl rfl ?_
      refine e_ldcSw C hE1.1 dX11_will_72 ?_
      refine x_callVV C K (c_X11_write (k := k1) (v := v1) (N := 8) (f := f1) (by decide) W9 hLx hkx hUI_24) Es_.blind (hE1.2.callL) hLx hkx (by decide) rfl v_11_314 rfl ⟨rfl, rfl⟩ ⟨Nat.le_of_ble_eq_true rfl, Nat.le_of_ble_eq_true rfl⟩ (Nat.le_of_ble_eq_true rfl) ⟨Nat.le_of_ble_eq_true rfl, Nat.le_of_ble_eq_true rfl⟩ dX11_will_75 rfl (st := []) (fun I_32 J_33 h_34 => ?_)
      obtain ⟨hUI_32, hFI_32, hGJ_33⟩ := h_34
      have hF_35 := fq_tr hF_27 hFI_32 (by decide)
      have hG_36 := fq_tr hG_28 hGJ_33 (by decide)
      refine g_aload_n C 2 dX11_will_78 rfl rfl ?_
      refine g_iload_n C 1 dX11_will_79 rfl rfl ?_
      refine g_callVV C K (c_X11_writeNumber W9 hLx hkx x_13  hUI_32) hLx hkx (by decide) rfl v_11_319 rfl ⟨rfl, rfl⟩ ⟨Nat.le_of_ble_eq_true rfl, Nat.le_of_ble_eq_true rfl⟩ (Nat.le_of_ble_eq_true rfl) ⟨Nat.le_of_ble_eq_true rfl, Nat.le_of_ble_eq_true rfl⟩ dX11_will_80 rfl (st := []) (fun I_38 J_39 h_40 => ?_)
      obtain ⟨hUI_38, hFI_38, hGJ_39⟩ := h_40
      have hF_41 := fq_tr hF_35 hFI_38 (by decide)
      have hG_42 := fq_tr hG_36 hGJ_39 (by decide)
      refine g_iload_n C 0 dX11_will_83 rfl rfl ?_
      refine g_iconst C (v := (-1)) dX11_will_84 (by decide) ?_
      refine g_icmp_ne C (tgt := 98) dX11_will_85 (by decide) (fun h_43 => ?_) (fun h_43 => ?_)
      · skip
        have n_44 : ¬ x_15 = (-1) := h_43
        have r_45 := ne_lo (lo := 0) n_44 rx_15 rc_m1 rfl (by decide)
        refine g_aload_n C 2 dX11_will_98 rfl rfl ?_
        refine e_ldcSw C hE3.1 dX11_will_99 ?_
        refine x_callVV C K (c_X11_write (k := k3) (v := v3) (N := 4) (f := f3) (by decide) W9 hLx hkx hUI_38) Es_.blind (hE3.2.callL) hLx hkx (by decide) rfl v_11_314 rfl ⟨rfl, rfl⟩ ⟨Nat.le_of_ble_eq_true rfl, Nat.le_of_ble_eq_true rfl⟩ (Nat.le_of_ble_eq_true rfl) ⟨Nat.le_of_ble_eq_true rfl, Nat.le_of_ble_eq_true rfl⟩ dX11_will_102 rfl (st := []) (fun I_47 J_48 h_49 => ?_)
        obtain ⟨hUI_47, hFI_47, hGJ_48⟩ := h_49
        have hF_50 := fq_tr hF_41 hFI_47 (by decide)
        have hG_51 := fq_tr hG_42 hGJ_48 (by decide)
        refine g_aload_n C 2 dX11_will_105 rfl rfl ?_
        refine g_aload_n C 2 dX11_will_106 rfl rfl ?_
        refine g_getR C K hLx hkx f_11_19 hb_1 dX11_will_107 ?_
        refine g_getR C K hb_1L hb_1k f_11_304 hb_4 dX11_will_110 ?_
        refine g_iload_n C 0 dX11_will_113 rfl rfl ?_
        obtain ⟨y_52, hy_52⟩ : ∃ z, J_48 b_4 (x_15.toNatClampNeg) = z := ⟨_, rfl⟩
        refine h_lald C K hb_4L hb_4k (v := y_52) (x_15.toNatClampNeg) (rfl) (ix_0 r_45 (by decide)) (ix_lt r_45 (by decide) hb_4n (by decide)) hy_52 dX11_will_114 ?_
        refine g_callVV C K (c_X11_writeName W9 hLx hkx y_52  hUI_47) hLx hkx (by decide) rfl v_11_308 rfl ⟨rfl, rfl⟩ ⟨Nat.le_of_ble_eq_true rfl, Nat.le_of_ble_eq_true rfl⟩ (Nat.le_of_ble_eq_true rfl) ⟨Nat.le_of_ble_eq_true rfl, Nat.le_of_ble_eq_true rfl⟩ dX11_will_115 rfl (st := []) (fun I_54 J_55 h_56 => ?_)
        obtain ⟨hUI_54, hFI_54, hGJ_55⟩ := h_56
        have hF_57 := fq_tr hF_50 hFI_54 (by decide)
        have hG_58 := fq_tr hG_51 hGJ_55 (by decide)
        refine g_aload_n C 2 dX11_will_118 rfl rfl ?_
        obtain ⟨x_59, hx_59, rx_59⟩ := ex_get (I := I_54) (a := x) (j := 14) (lo := 0) (hi := 40) hUI_54.1 hLx (ro_o hkx (by decide)) rfl
        refine g_getI C K hLx hkx f_11_97 (v := x_59) hx_59 dX11_will_119 ?_
        exact g_zret (ty := .int) (r := x_59) B K rfl (rfl) ⟨hUI_54, hF_57, hG_58, rg_w rx_59 (by decide) (by decide)⟩ dX11_will_122
      · skip
        have r_60 := (⟨(rx_15).1, (eq_rg (h_43) rc_m1).2⟩ : Rg (-1) (-1) x_15)
        refine g_aload_n C 2 dX11_will_88 rfl rfl ?_
        refine e_ldcSw C hE2.1 dX11_will_89 ?_
        refine x_callVV C K (c_X11_write (k := k2) (v := v2) (N := 10) (f := f2) (by decide) W9 hLx hkx hUI_38) Es_.blind (hE2.2.callL) hLx hkx (by decide) rfl v_11_314 rfl ⟨rfl, rfl⟩ ⟨Nat.le_of_ble_eq_true rfl, Nat.le_of_ble_eq_true rfl⟩ (Nat.le_of_ble_eq_true rfl) ⟨Nat.le_of_ble_eq_true rfl, Nat.le_of_ble_eq_true rfl⟩ dX11_will_92 rfl (st := []) (fun I_62 J_63 h_64 => ?_)
        obtain ⟨hUI_62, hFI_62, hGJ_63⟩ := h_64
        have hF_65 := fq_tr hF_41 hFI_62 (by decide)
        have hG_66 := fq_tr hG_42 hGJ_63 (by decide)
        refine g_goto C (tgt := 118) dX11_will_95 (by decide) ?_
        refine g_aload_n C 2 dX11_will_118 rfl rfl ?_
        obtain ⟨x_67, hx_67, rx_67⟩ := ex_get (I := I_62) (a := x) (j := 14) (lo := 0) (hi := 40) hUI_62.1 hLx (ro_o hkx (by decide)) rfl
        refine g_getI C K hLx hkx f_11_97 (v := x_67) hx_67 dX11_will_119 ?_
        exact g_zret (ty := .int) (r := x_67) B K rfl (rfl) ⟨hUI_62, hF_65, hG_66, rg_w rx_67 (by decide) (by decide)⟩ dX11_will_122
    · skip
      have r_68 := (⟨(eq_rg (h_29) rc_0).1, (eq_rg (h_29) rc_0).2⟩ : Rg 0 0 x_13)
      refine g_aload_n C 2 dX11_will_61 rfl rfl ?_
      refine e_ldcSw C hE0.1 dX11_will_62 ?_
      refine x_callVV C K (c_X11_write (k := k0) (v := v0) (N := 15) (f := f0) (by decide) W9 hLx hkx hUI_24) Es_.blind (hE0.2.callL) hLx hkx (by decide) rfl v_11_314 rfl ⟨rfl, rfl⟩ ⟨Nat.le_of_ble_eq_true rfl, Nat.le_of_ble_eq_true rfl⟩ (Nat.le_of_ble_eq_true rfl) ⟨Nat.le_of_ble_eq_true rfl, Nat.le_of_ble_eq_true rfl⟩ dX11_will_65 rfl (st := []) (fun I_70 J_71 h_72 => ?_)
      obtain ⟨hUI_70, hFI_70, hGJ_71⟩ := h_72
      have hF_73 := fq_tr hF_27 hFI_70 (by decide)
      have hG_74 := fq_tr hG_28 hGJ_71 (by decide)
      refine g_goto C (tgt := 118) dX11_will_68 (by decide) ?_
      refine g_aload_n C 2 dX11_will_118 rfl rfl ?_
      obtain ⟨x_75, hx_75, rx_75⟩ := ex_get (I := I_70) (a := x) (j := 14) (lo := 0) (hi := 40) hUI_70.1 hLx (ro_o hkx (by decide)) rfl
      refine g_getI C K hLx hkx f_11_97 (v := x_75) hx_75 dX11_will_119 ?_
      exact g_zret (ty := .int) (r := x_75) B K rfl (rfl) ⟨hUI_70, hF_73, hG_74, rg_w rx_75 (by decide) (by decide)⟩ dX11_will_122
  · skip
    have r_76 := (⟨(rx_5).1, (eq_rg (h_9) rc_0).2⟩ : Rg 0 0 x_5)
    refine g_iconst C (v := (-1)) dX11_will_11 (by decide) ?_
    exact g_zret (ty := .int) (r := (-1)) B K rfl (rfl) ⟨hU, hF, hG, rg_w rc_m1 (by decide) (by decide)⟩ dX11_will_12
