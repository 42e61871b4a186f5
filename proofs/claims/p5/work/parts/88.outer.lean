theorem dX11_init_0 : decode cX11_init 0 = .ok (.aload_n 0, 1) := by decide +kernel
theorem dX11_init_1 : decode cX11_init 1 = .ok (.invokespecial 1, 3) := by decide +kernel
theorem dX11_init_4 : decode cX11_init 4 = .ok (.aload_n 0, 1) := by decide +kernel
theorem dX11_init_5 : decode cX11_init 5 = .ok (.new 7, 3) := by decide +kernel
theorem dX11_init_8 : decode cX11_init 8 = .ok (.dup, 1) := by decide +kernel
theorem dX11_init_9 : decode cX11_init 9 = .ok (.invokespecial 9, 3) := by decide +kernel
theorem dX11_init_12 : decode cX11_init 12 = .ok (.putfield 10, 3) := by decide +kernel
theorem dX11_init_15 : decode cX11_init 15 = .ok (.aload_n 0, 1) := by decide +kernel
theorem dX11_init_16 : decode cX11_init 16 = .ok (.new 16, 3) := by decide +kernel
theorem dX11_init_19 : decode cX11_init 19 = .ok (.dup, 1) := by decide +kernel
theorem dX11_init_20 : decode cX11_init 20 = .ok (.invokespecial 18, 3) := by decide +kernel
theorem dX11_init_23 : decode cX11_init 23 = .ok (.putfield 19, 3) := by decide +kernel
theorem dX11_init_26 : decode cX11_init 26 = .ok (.aload_n 0, 1) := by decide +kernel
theorem dX11_init_27 : decode cX11_init 27 = .ok (.new 23, 3) := by decide +kernel
theorem dX11_init_30 : decode cX11_init 30 = .ok (.dup, 1) := by decide +kernel
theorem dX11_init_31 : decode cX11_init 31 = .ok (.aload_n 0, 1) := by decide +kernel
theorem dX11_init_32 : decode cX11_init 32 = .ok (.getfield 19, 3) := by decide +kernel
theorem dX11_init_35 : decode cX11_init 35 = .ok (.invokespecial 25, 3) := by decide +kernel
theorem dX11_init_38 : decode cX11_init 38 = .ok (.putfield 28, 3) := by decide +kernel
theorem dX11_init_41 : decode cX11_init 41 = .ok (.aload_n 0, 1) := by decide +kernel
theorem dX11_init_42 : decode cX11_init 42 = .ok (.new 23, 3) := by decide +kernel
theorem dX11_init_45 : decode cX11_init 45 = .ok (.dup, 1) := by decide +kernel
theorem dX11_init_46 : decode cX11_init 46 = .ok (.aload_n 0, 1) := by decide +kernel
theorem dX11_init_47 : decode cX11_init 47 = .ok (.getfield 19, 3) := by decide +kernel
theorem dX11_init_50 : decode cX11_init 50 = .ok (.invokespecial 25, 3) := by decide +kernel
theorem dX11_init_53 : decode cX11_init 53 = .ok (.putfield 32, 3) := by decide +kernel
theorem dX11_init_56 : decode cX11_init 56 = .ok (.aload_n 0, 1) := by decide +kernel
theorem dX11_init_57 : decode cX11_init 57 = .ok (.new 35, 3) := by decide +kernel
theorem dX11_init_60 : decode cX11_init 60 = .ok (.dup, 1) := by decide +kernel
theorem dX11_init_61 : decode cX11_init 61 = .ok (.aload_n 0, 1) := by decide +kernel
theorem dX11_init_62 : decode cX11_init 62 = .ok (.getfield 19, 3) := by decide +kernel
theorem dX11_init_65 : decode cX11_init 65 = .ok (.invokespecial 37, 3) := by decide +kernel
theorem dX11_init_68 : decode cX11_init 68 = .ok (.putfield 38, 3) := by decide +kernel
theorem dX11_init_71 : decode cX11_init 71 = .ok (.aload_n 0, 1) := by decide +kernel
theorem dX11_init_72 : decode cX11_init 72 = .ok (.new 42, 3) := by decide +kernel
theorem dX11_init_75 : decode cX11_init 75 = .ok (.dup, 1) := by decide +kernel
theorem dX11_init_76 : decode cX11_init 76 = .ok (.invokespecial 44, 3) := by decide +kernel
theorem dX11_init_79 : decode cX11_init 79 = .ok (.putfield 45, 3) := by decide +kernel
theorem dX11_init_82 : decode cX11_init 82 = .ok (.aload_n 0, 1) := by decide +kernel
theorem dX11_init_83 : decode cX11_init 83 = .ok (.new 49, 3) := by decide +kernel
theorem dX11_init_86 : decode cX11_init 86 = .ok (.dup, 1) := by decide +kernel
theorem dX11_init_87 : decode cX11_init 87 = .ok (.invokespecial 51, 3) := by decide +kernel
theorem dX11_init_90 : decode cX11_init 90 = .ok (.putfield 52, 3) := by decide +kernel
theorem dX11_init_93 : decode cX11_init 93 = .ok (.aload_n 0, 1) := by decide +kernel
theorem dX11_init_94 : decode cX11_init 94 = .ok (.new 56, 3) := by decide +kernel
theorem dX11_init_97 : decode cX11_init 97 = .ok (.dup, 1) := by decide +kernel
theorem dX11_init_98 : decode cX11_init 98 = .ok (.invokespecial 58, 3) := by decide +kernel
theorem dX11_init_101 : decode cX11_init 101 = .ok (.putfield 59, 3) := by decide +kernel
theorem dX11_init_104 : decode cX11_init 104 = .ok (.aload_n 0, 1) := by decide +kernel
theorem dX11_init_105 : decode cX11_init 105 = .ok (.new 56, 3) := by decide +kernel
theorem dX11_init_108 : decode cX11_init 108 = .ok (.dup, 1) := by decide +kernel
theorem dX11_init_109 : decode cX11_init 109 = .ok (.invokespecial 58, 3) := by decide +kernel
theorem dX11_init_112 : decode cX11_init 112 = .ok (.putfield 63, 3) := by decide +kernel
theorem dX11_init_115 : decode cX11_init 115 = .ok (.aload_n 0, 1) := by decide +kernel
theorem dX11_init_116 : decode cX11_init 116 = .ok (.new 66, 3) := by decide +kernel
theorem dX11_init_119 : decode cX11_init 119 = .ok (.dup, 1) := by decide +kernel
theorem dX11_init_120 : decode cX11_init 120 = .ok (.aload_n 0, 1) := by decide +kernel
theorem dX11_init_121 : decode cX11_init 121 = .ok (.getfield 19, 3) := by decide +kernel
theorem dX11_init_124 : decode cX11_init 124 = .ok (.invokespecial 68, 3) := by decide +kernel
theorem dX11_init_127 : decode cX11_init 127 = .ok (.putfield 69, 3) := by decide +kernel
theorem dX11_init_130 : decode cX11_init 130 = .ok (.aload_n 0, 1) := by decide +kernel
theorem dX11_init_131 : decode cX11_init 131 = .ok (.new 73, 3) := by decide +kernel
theorem dX11_init_134 : decode cX11_init 134 = .ok (.dup, 1) := by decide +kernel
theorem dX11_init_135 : decode cX11_init 135 = .ok (.invokespecial 75, 3) := by decide +kernel
theorem dX11_init_138 : decode cX11_init 138 = .ok (.putfield 76, 3) := by decide +kernel
theorem dX11_init_141 : decode cX11_init 141 = .ok (.aload_n 0, 1) := by decide +kernel
theorem dX11_init_142 : decode cX11_init 142 = .ok (.new 80, 3) := by decide +kernel
theorem dX11_init_145 : decode cX11_init 145 = .ok (.dup, 1) := by decide +kernel
theorem dX11_init_146 : decode cX11_init 146 = .ok (.invokespecial 82, 3) := by decide +kernel
theorem dX11_init_149 : decode cX11_init 149 = .ok (.putfield 83, 3) := by decide +kernel
theorem dX11_init_152 : decode cX11_init 152 = .ok (.aload_n 0, 1) := by decide +kernel
theorem dX11_init_153 : decode cX11_init 153 = .ok (.iconst 2, 1) := by decide +kernel
theorem dX11_init_154 : decode cX11_init 154 = .ok (.anewarray 87, 3) := by decide +kernel
theorem dX11_init_157 : decode cX11_init 157 = .ok (.putfield 89, 3) := by decide +kernel
theorem dX11_init_160 : decode cX11_init 160 = .ok (.aload_n 0, 1) := by decide +kernel
theorem dX11_init_161 : decode cX11_init 161 = .ok (.bipush 40, 2) := by decide +kernel
theorem dX11_init_163 : decode cX11_init 163 = .ok (.newarray .byte, 2) := by decide +kernel
theorem dX11_init_165 : decode cX11_init 165 = .ok (.putfield 93, 3) := by decide +kernel
theorem dX11_init_168 : decode cX11_init 168 = .ok (.aload_n 0, 1) := by decide +kernel
theorem dX11_init_169 : decode cX11_init 169 = .ok (.iconst 0, 1) := by decide +kernel
theorem dX11_init_170 : decode cX11_init 170 = .ok (.putfield 97, 3) := by decide +kernel
theorem dX11_init_173 : decode cX11_init 173 = .ok (.iconst 0, 1) := by decide +kernel
theorem dX11_init_174 : decode cX11_init 174 = .ok (.istore_n 1, 1) := by decide +kernel
theorem dX11_init_175 : decode cX11_init 175 = .ok (.iload_n 1, 1) := by decide +kernel
theorem dX11_init_176 : decode cX11_init 176 = .ok (.iconst 2, 1) := by decide +kernel
theorem dX11_init_177 : decode cX11_init 177 = .ok (.if_icmp .ge 22, 3) := by decide +kernel
theorem dX11_init_180 : decode cX11_init 180 = .ok (.aload_n 0, 1) := by decide +kernel
theorem dX11_init_181 : decode cX11_init 181 = .ok (.getfield 89, 3) := by decide +kernel
theorem dX11_init_184 : decode cX11_init 184 = .ok (.iload_n 1, 1) := by decide +kernel
theorem dX11_init_185 : decode cX11_init 185 = .ok (.new 87, 3) := by decide +kernel
theorem dX11_init_188 : decode cX11_init 188 = .ok (.dup, 1) := by decide +kernel
theorem dX11_init_189 : decode cX11_init 189 = .ok (.invokespecial 101, 3) := by decide +kernel
theorem dX11_init_192 : decode cX11_init 192 = .ok (.aastore, 1) := by decide +kernel
theorem dX11_init_193 : decode cX11_init 193 = .ok (.iinc 1 1, 3) := by decide +kernel
theorem dX11_init_196 : decode cX11_init 196 = .ok (.goto (-21), 3) := by decide +kernel
theorem dX11_init_199 : decode cX11_init 199 = .ok (.return_, 1) := by decide +kernel
/-- as Pi_, and its two images are two -/
def Pj_ (a : Nat) (L : List Nat) (κ ln : Nat → Nat) (R : Nat → Nat → Option Nat) (ow : Nat → Nat × Nat) (I : Nat → Nat → Int32) (J : Nat → Nat → Int64) : List Nat → (Nat → Nat) → (Nat → Nat) → (Nat → Nat → Option Nat) → (Nat → Nat → Int32) → (Nat → Nat → Int64) → Prop := fun L2 κ2 ln2 R2 I2 J2 => Pi_ a L κ ln R ow I J L2 κ2 ln2 R2 I2 J2 ∧ ∀ A, R2 a 12 = some A → R2 A 0 ≠ R2 A 1
set_option maxRecDepth 100000 in
set_option maxHeartbeats 4000000 in
theorem i_11 {l : Launch} {D : va_G} {cy : Nat → ClassId} {L : List Nat} {κ ln : Nat → Nat} {R : Nat → Nat → Option Nat} {I : Nat → Nat → Int32} {J : Nat → Nat → Int64} {ow : Nat → Nat × Nat} {k v : Nat} {f : Nat → Int32} {a : Nat} (ha : a ∈ L) (hk : κ a = 11) (hz : ∀ j, I a j = 0) (hf : ∀ i : Nat, f i = tb_.getD i 0) : CtN l yX11_init cX11_init 2 { frames := 6, cells := 224, slots := 6778, locals := 400 } 224 6778 D cy L κ ln R I J (Et_ k v f L) [.ref a] (Pj_ a L κ ln R ow I J) := by
  refine CtN.of (by decide +kernel) (Nat.le_of_ble_eq_true rfl) ?_
  intro p e s m below meth c B K hN
  have C := B.1
  have hin : meth.name = "<init>" := B.2.2.2
  have hA : ∀ q, s.heap.size ≤ q → AN_ L s.heap.size q := fun q h => Or.inr h
  refine g_lo (is := [0]) (lo2 := [(0, .ref a)]) rfl ?_
  obtain ⟨hN, hR9, hX⟩ := hN
  refine g_aload_n C 0 dX11_init_0 rfl rfl ?_
  refine a_obj C oi_11_1 (Nat.le_of_ble_eq_true rfl) (Nat.le_of_ble_eq_true rfl) dX11_init_1 ?_
  refine g_aload_n C 0 dX11_init_4 rfl rfl ?_
  refine a_new (ow := ow) C K hA (a, 0) (by decide) rfl u_in10 tyX10 tyX10_ok cl_11_7 df_10 ⟨Nat.le_of_ble_eq_true rfl, Nat.le_of_ble_eq_true rfl⟩ dX11_init_5 (fun q1 L2 κ3 ln4 R5 I6 J7 ow8 hq9 K10 => ?_)
  refine g_dup C dX11_init_8 rfl ?_
  have hE11 := hq9.2.2.2.2.2.2.2.2
  refine a_init C K10 hA (i_10 (k := k) (v := v) (f := f) (ow := ow8) hq9.2.1 hq9.2.2.2.1 hq9.2.2.2.2.2.2.1 hf) Et_blind (fun H locs U hS hU hW => ⟨hN.warm hW, hR9.warm hW, hX.go hW.alike (fun a h1 h2 => by rw [hU]; exact hS.2.1 a h1 h2) (fun q hq => hq.elim (K10.2.1 q) (fun h => hA q (Nat.le_trans hS.1 h)))⟩) iw_11_9 rfl ⟨rfl, rfl⟩ ⟨Nat.le_of_ble_eq_true rfl, Nat.le_of_ble_eq_true rfl⟩ (Nat.le_of_ble_eq_true rfl) ⟨Nat.le_of_ble_eq_true rfl, Nat.le_of_ble_eq_true rfl⟩ dX11_init_9 (st := [.ref q1, .ref a]) rfl (fun L12 κ13 ln14 R15 I16 J17 hp18 K19 => ?_)
  obtain ⟨ow21, x22, x23, x24, x25, x26⟩ := nq_pi hq9 hp18
  have md27 := (Md.rf : Md a L κ ln R ow I J L κ ln R ow I J).ex x22 (x23)
  have z28 : ∀ j, I16 a j = 0 := fun j => ((x22 a ha).2.2.2.2.1 j).trans (hz j)
  have hl29 := (x22 a ha).1
  have hk30 := ((x22 a ha).2.1).trans hk
  refine a_putR C K19 hl29 hk30 f_11_10 p_11_0 hin rfl rfl rfl dX11_init_12 (fun R31 hR32 => ?_)
  have md33 := md27.putR ha hR32
  have fa34 : Fa L12 κ13 ln14 R31 ow21 I16 a 0 10 0 := Fa.new hR32 x24 x25 (fun h => absurd h (by decide))
  refine g_aload_n C 0 dX11_init_15 rfl rfl ?_
  refine a_new (ow := ow21) C K19 hA (a, 0) (by decide) rfl u_in8 tyX8 tyX8_ok cl_11_16 df_8 ⟨Nat.le_of_ble_eq_true rfl, Nat.le_of_ble_eq_true rfl⟩ dX11_init_16 (fun q35 L36 κ37 ln38 R39 I40 J41 ow42 hq43 K44 => ?_)
  refine g_dup C dX11_init_19 rfl ?_
  have hE45 := hq43.2.2.2.2.2.2.2.2
  refine a_initN C K44 hN hA (i_8 (ow := ow42) hq43.2.1 hq43.2.2.2.1 hq43.2.2.2.2.2.2.1 ) En_blind (fun _ _ U _ _ hW => hN.warm hW) jw_11_18 rfl ⟨rfl, rfl⟩ ⟨Nat.le_of_ble_eq_true rfl, Nat.le_of_ble_eq_true rfl⟩ (Nat.le_of_ble_eq_true rfl) ⟨Nat.le_of_ble_eq_true rfl, Nat.le_of_ble_eq_true rfl⟩ dX11_init_20 (st := [.ref q35, .ref a]) rfl (fun L46 κ47 ln48 R49 I50 J51 hp52 K53 => ?_)
  obtain ⟨ow55, x56, x57, x58, x59, x60⟩ := nq_pi hq43 hp52
  have md61 := md33.ex x56 (x57)
  have fa62 := fa34.ex hl29 x56
  have z63 : ∀ j, I50 a j = 0 := fun j => ((x56 a hl29).2.2.2.2.1 j).trans (z28 j)
  have hl64 := (x56 a hl29).1
  have hk65 := ((x56 a hl29).2.1).trans hk30
  have hl66 := (x56 q1 x24).1
  have hk67 := ((x56 q1 x24).2.1).trans x25
  refine a_putR C K53 hl64 hk65 f_11_19 p_11_1 hin rfl rfl rfl dX11_init_23 (fun R68 hR69 => ?_)
  have md70 := md61.putR ha hR69
  have rf71 : R68 a 1 = some q35 := by rw [hR69]; exact u2_s
  have fa72 := fa62.put hR69 (show 0 ≠ 1 by decide)
  have fa73 : Fa L46 κ47 ln48 R68 ow55 I50 a 1 8 0 := Fa.new hR69 x58 x59 (fun h => absurd h (by decide))
  have ofa73 : Oh L46 R68 ow55 a 1 := Oh.new hR69 x58 x60.2
  refine g_aload_n C 0 dX11_init_26 rfl rfl ?_
  refine a_new (ow := ow55) C K53 hA (a, 0) (by decide) rfl u_in1 tyX1 tyX1_ok cl_11_23 df_1 ⟨Nat.le_of_ble_eq_true rfl, Nat.le_of_ble_eq_true rfl⟩ dX11_init_27 (fun q74 L75 κ76 ln77 R78 I79 J80 ow81 hq82 K83 => ?_)
  refine g_dup C dX11_init_30 rfl ?_
  refine g_aload_n C 0 dX11_init_31 rfl rfl ?_
  refine g_getR C K83 (hq82.2.2.2.2.2.2.2.2 a hl64).1 (((hq82.2.2.2.2.2.2.2.2 a hl64).2.1).trans hk65) f_11_19 (b := q35) (((hq82.2.2.2.2.2.2.2.2 a hl64).2.2.2.2.2.1 1).trans rf71) dX11_init_32 ?_
  have hE84 := hq82.2.2.2.2.2.2.2.2
  refine a_init C K83 hA (i_1 (ow := ow81) hq82.2.1 hq82.2.2.2.1 hq82.2.2.2.2.2.2.1 (hE84 q35 x58).1 (((hE84 q35 x58).2.1).trans x59)) En_blind (fun _ _ U _ _ hW => hN.warm hW) iw_11_25 rfl ⟨rfl, rfl⟩ ⟨Nat.le_of_ble_eq_true rfl, Nat.le_of_ble_eq_true rfl⟩ (Nat.le_of_ble_eq_true rfl) ⟨Nat.le_of_ble_eq_true rfl, Nat.le_of_ble_eq_true rfl⟩ dX11_init_35 (st := [.ref q74, .ref a]) rfl (fun L85 κ86 ln87 R88 I89 J90 hp91 K92 => ?_)
  obtain ⟨ow94, x95, x96, x97, x98, x99⟩ := nq_pi hq82 hp91
  have md100 := md70.ex x95 (x96)
  have rf101 := ((x95 a hl64).2.2.2.2.2.1 1).trans rf71
  have fa102 := fa72.ex hl64 x95
  have fa103 := fa73.ex hl64 x95
  have ofa103 := ofa73.ex hl64 x95
  have z104 : ∀ j, I89 a j = 0 := fun j => ((x95 a hl64).2.2.2.2.1 j).trans (z63 j)
  have hl105 := (x95 a hl64).1
  have hk106 := ((x95 a hl64).2.1).trans hk65
  have hl107 := (x95 q1 hl66).1
  have hk108 := ((x95 q1 hl66).2.1).trans hk67
  have hl109 := (x95 q35 x58).1
  have hk110 := ((x95 q35 x58).2.1).trans x59
  refine a_putR C K92 hl105 hk106 f_11_28 p_11_2 hin rfl rfl rfl dX11_init_38 (fun R111 hR112 => ?_)
  have md113 := md100.putR ha hR112
  have rf114 : R111 a 1 = some q35 := by rw [hR112, u2_j (by decide)]; exact rf101
  have fa115 := fa102.put hR112 (show 0 ≠ 2 by decide)
  have fa116 := fa103.put hR112 (show 1 ≠ 2 by decide)
  have ofa116 := ofa103.put hR112 (show 1 ≠ 2 by decide)
  have fa117 : Fa L85 κ86 ln87 R111 ow94 I89 a 2 1 0 := Fa.new hR112 x97 x98 (fun h => absurd h (by decide))
  refine g_aload_n C 0 dX11_init_41 rfl rfl ?_
  refine a_new (ow := ow94) C K92 hA (a, 0) (by decide) rfl u_in1 tyX1 tyX1_ok cl_11_23 df_1 ⟨Nat.le_of_ble_eq_true rfl, Nat.le_of_ble_eq_true rfl⟩ dX11_init_42 (fun q118 L119 κ120 ln121 R122 I123 J124 ow125 hq126 K127 => ?_)
  refine g_dup C dX11_init_45 rfl ?_
  refine g_aload_n C 0 dX11_init_46 rfl rfl ?_
  refine g_getR C K127 (hq126.2.2.2.2.2.2.2.2 a hl105).1 (((hq126.2.2.2.2.2.2.2.2 a hl105).2.1).trans hk106) f_11_19 (b := q35) (((hq126.2.2.2.2.2.2.2.2 a hl105).2.2.2.2.2.1 1).trans rf114) dX11_init_47 ?_
  have hE128 := hq126.2.2.2.2.2.2.2.2
  refine a_init C K127 hA (i_1 (ow := ow125) hq126.2.1 hq126.2.2.2.1 hq126.2.2.2.2.2.2.1 (hE128 q35 hl109).1 (((hE128 q35 hl109).2.1).trans hk110)) En_blind (fun _ _ U _ _ hW => hN.warm hW) iw_11_25 rfl ⟨rfl, rfl⟩ ⟨Nat.le_of_ble_eq_true rfl, Nat.le_of_ble_eq_true rfl⟩ (Nat.le_of_ble_eq_true rfl) ⟨Nat.le_of_ble_eq_true rfl, Nat.le_of_ble_eq_true rfl⟩ dX11_init_50 (st := [.ref q118, .ref a]) rfl (fun L129 κ130 ln131 R132 I133 J134 hp135 K136 => ?_)
  obtain ⟨ow138, x139, x140, x141, x142, x143⟩ := nq_pi hq126 hp135
  have md144 := md113.ex x139 (x140)
  have rf145 := ((x139 a hl105).2.2.2.2.2.1 1).trans rf114
  have fa146 := fa115.ex hl105 x139
  have fa147 := fa116.ex hl105 x139
  have ofa147 := ofa116.ex hl105 x139
  have fa148 := fa117.ex hl105 x139
  have z149 : ∀ j, I133 a j = 0 := fun j => ((x139 a hl105).2.2.2.2.1 j).trans (z104 j)
  have hl150 := (x139 a hl105).1
  have hk151 := ((x139 a hl105).2.1).trans hk106
  have hl152 := (x139 q1 hl107).1
  have hk153 := ((x139 q1 hl107).2.1).trans hk108
  have hl154 := (x139 q35 hl109).1
  have hk155 := ((x139 q35 hl109).2.1).trans hk110
  have hl156 := (x139 q74 x97).1
  have hk157 := ((x139 q74 x97).2.1).trans x98
  refine a_putR C K136 hl150 hk151 f_11_32 p_11_3 hin rfl rfl rfl dX11_init_53 (fun R158 hR159 => ?_)
  have md160 := md144.putR ha hR159
  have rf161 : R158 a 1 = some q35 := by rw [hR159, u2_j (by decide)]; exact rf145
  have fa162 := fa146.put hR159 (show 0 ≠ 3 by decide)
  have fa163 := fa147.put hR159 (show 1 ≠ 3 by decide)
  have ofa163 := ofa147.put hR159 (show 1 ≠ 3 by decide)
  have fa164 := fa148.put hR159 (show 2 ≠ 3 by decide)
  have fa165 : Fa L129 κ130 ln131 R158 ow138 I133 a 3 1 0 := Fa.new hR159 x141 x142 (fun h => absurd h (by decide))
  refine g_aload_n C 0 dX11_init_56 rfl rfl ?_
  refine a_new (ow := ow138) C K136 hA (a, 0) (by decide) rfl u_in5 tyX5 tyX5_ok cl_11_35 df_5 ⟨Nat.le_of_ble_eq_true rfl, Nat.le_of_ble_eq_true rfl⟩ dX11_init_57 (fun q166 L167 κ168 ln169 R170 I171 J172 ow173 hq174 K175 => ?_)
  refine g_dup C dX11_init_60 rfl ?_
  refine g_aload_n C 0 dX11_init_61 rfl rfl ?_
  refine g_getR C K175 (hq174.2.2.2.2.2.2.2.2 a hl150).1 (((hq174.2.2.2.2.2.2.2.2 a hl150).2.1).trans hk151) f_11_19 (b := q35) (((hq174.2.2.2.2.2.2.2.2 a hl150).2.2.2.2.2.1 1).trans rf161) dX11_init_62 ?_
  have hE176 := hq174.2.2.2.2.2.2.2.2
  refine a_init C K175 hA (i_5 (ow := ow173) hq174.2.1 hq174.2.2.2.1 hq174.2.2.2.2.2.2.1 (hE176 q35 hl154).1 (((hE176 q35 hl154).2.1).trans hk155)) En_blind (fun _ _ U _ _ hW => hN.warm hW) iw_11_37 rfl ⟨rfl, rfl⟩ ⟨Nat.le_of_ble_eq_true rfl, Nat.le_of_ble_eq_true rfl⟩ (Nat.le_of_ble_eq_true rfl) ⟨Nat.le_of_ble_eq_true rfl, Nat.le_of_ble_eq_true rfl⟩ dX11_init_65 (st := [.ref q166, .ref a]) rfl (fun L177 κ178 ln179 R180 I181 J182 hp183 K184 => ?_)
  obtain ⟨ow186, x187, x188, x189, x190, x191⟩ := nq_pi hq174 hp183
  have md192 := md160.ex x187 (x188)
  have rf193 := ((x187 a hl150).2.2.2.2.2.1 1).trans rf161
  have fa194 := fa162.ex hl150 x187
  have fa195 := fa163.ex hl150 x187
  have ofa195 := ofa163.ex hl150 x187
  have fa196 := fa164.ex hl150 x187
  have fa197 := fa165.ex hl150 x187
  have z198 : ∀ j, I181 a j = 0 := fun j => ((x187 a hl150).2.2.2.2.1 j).trans (z149 j)
  have hl199 := (x187 a hl150).1
  have hk200 := ((x187 a hl150).2.1).trans hk151
  have hl201 := (x187 q1 hl152).1
  have hk202 := ((x187 q1 hl152).2.1).trans hk153
  have hl203 := (x187 q35 hl154).1
  have hk204 := ((x187 q35 hl154).2.1).trans hk155
  have hl205 := (x187 q74 hl156).1
  have hk206 := ((x187 q74 hl156).2.1).trans hk157
  have hl207 := (x187 q118 x141).1
  have hk208 := ((x187 q118 x141).2.1).trans x142
  refine a_putR C K184 hl199 hk200 f_11_38 p_11_4 hin rfl rfl rfl dX11_init_68 (fun R209 hR210 => ?_)
  have md211 := md192.putR ha hR210
  have rf212 : R209 a 1 = some q35 := by rw [hR210, u2_j (by decide)]; exact rf193
  have fa213 := fa194.put hR210 (show 0 ≠ 4 by decide)
  have fa214 := fa195.put hR210 (show 1 ≠ 4 by decide)
  have ofa214 := ofa195.put hR210 (show 1 ≠ 4 by decide)
  have fa215 := fa196.put hR210 (show 2 ≠ 4 by decide)
  have fa216 := fa197.put hR210 (show 3 ≠ 4 by decide)
  have fa217 : Fa L177 κ178 ln179 R209 ow186 I181 a 4 5 0 := Fa.new hR210 x189 x190 (fun h => absurd h (by decide))
  refine g_aload_n C 0 dX11_init_71 rfl rfl ?_
  refine a_new (ow := ow186) C K184 hA (a, 0) (by decide) rfl u_in9 tyX9 tyX9_ok cl_11_42 df_9 ⟨Nat.le_of_ble_eq_true rfl, Nat.le_of_ble_eq_true rfl⟩ dX11_init_72 (fun q218 L219 κ220 ln221 R222 I223 J224 ow225 hq226 K227 => ?_)
  refine g_dup C dX11_init_75 rfl ?_
  have hE228 := hq226.2.2.2.2.2.2.2.2
  refine a_initN C K227 hN hA (i_9 (ow := ow225) hq226.2.1 hq226.2.2.2.1 hq226.2.2.2.2.2.2.1 ) En_blind (fun _ _ U _ _ hW => hN.warm hW) jw_11_44 rfl ⟨rfl, rfl⟩ ⟨Nat.le_of_ble_eq_true rfl, Nat.le_of_ble_eq_true rfl⟩ (Nat.le_of_ble_eq_true rfl) ⟨Nat.le_of_ble_eq_true rfl, Nat.le_of_ble_eq_true rfl⟩ dX11_init_76 (st := [.ref q218, .ref a]) rfl (fun L229 κ230 ln231 R232 I233 J234 hp235 K236 => ?_)
  obtain ⟨ow238, x239, x240, x241, x242, x243⟩ := nq_pi hq226 hp235
  have md244 := md211.ex x239 (x240)
  have rf245 := ((x239 a hl199).2.2.2.2.2.1 1).trans rf212
  have fa246 := fa213.ex hl199 x239
  have fa247 := fa214.ex hl199 x239
  have ofa247 := ofa214.ex hl199 x239
  have fa248 := fa215.ex hl199 x239
  have fa249 := fa216.ex hl199 x239
  have fa250 := fa217.ex hl199 x239
  have z251 : ∀ j, I233 a j = 0 := fun j => ((x239 a hl199).2.2.2.2.1 j).trans (z198 j)
  have hl252 := (x239 a hl199).1
  have hk253 := ((x239 a hl199).2.1).trans hk200
  have hl254 := (x239 q1 hl201).1
  have hk255 := ((x239 q1 hl201).2.1).trans hk202
  have hl256 := (x239 q35 hl203).1
  have hk257 := ((x239 q35 hl203).2.1).trans hk204
  have hl258 := (x239 q74 hl205).1
  have hk259 := ((x239 q74 hl205).2.1).trans hk206
  have hl260 := (x239 q118 hl207).1
  have hk261 := ((x239 q118 hl207).2.1).trans hk208
  have hl262 := (x239 q166 x189).1
  have hk263 := ((x239 q166 x189).2.1).trans x190
  refine a_putR C K236 hl252 hk253 f_11_45 p_11_5 hin rfl rfl rfl dX11_init_79 (fun R264 hR265 => ?_)
  have md266 := md244.putR ha hR265
  have rf267 : R264 a 1 = some q35 := by rw [hR265, u2_j (by decide)]; exact rf245
  have fa268 := fa246.put hR265 (show 0 ≠ 5 by decide)
  have fa269 := fa247.put hR265 (show 1 ≠ 5 by decide)
  have ofa269 := ofa247.put hR265 (show 1 ≠ 5 by decide)
  have fa270 := fa248.put hR265 (show 2 ≠ 5 by decide)
  have fa271 := fa249.put hR265 (show 3 ≠ 5 by decide)
  have fa272 := fa250.put hR265 (show 4 ≠ 5 by decide)
  have fa273 : Fa L229 κ230 ln231 R264 ow238 I233 a 5 9 0 := Fa.new hR265 x241 x242 (fun h => absurd h (by decide))
  refine g_aload_n C 0 dX11_init_82 rfl rfl ?_
  refine a_new (ow := ow238) C K236 hA (a, 0) (by decide) rfl u_in0 tyX0 tyX0_ok cl_11_49 df_0 ⟨Nat.le_of_ble_eq_true rfl, Nat.le_of_ble_eq_true rfl⟩ dX11_init_83 (fun q274 L275 κ276 ln277 R278 I279 J280 ow281 hq282 K283 => ?_)
  refine g_dup C dX11_init_86 rfl ?_
  have hE284 := hq282.2.2.2.2.2.2.2.2
  refine a_initN C K283 hN hA (i_0 (ow := ow281) hq282.2.1 hq282.2.2.2.1 hq282.2.2.2.2.2.2.1 ) En_blind (fun _ _ U _ _ hW => hN.warm hW) jw_11_51 rfl ⟨rfl, rfl⟩ ⟨Nat.le_of_ble_eq_true rfl, Nat.le_of_ble_eq_true rfl⟩ (Nat.le_of_ble_eq_true rfl) ⟨Nat.le_of_ble_eq_true rfl, Nat.le_of_ble_eq_true rfl⟩ dX11_init_87 (st := [.ref q274, .ref a]) rfl (fun L285 κ286 ln287 R288 I289 J290 hp291 K292 => ?_)
  obtain ⟨ow294, x295, x296, x297, x298, x299⟩ := nq_pi hq282 hp291
  have md300 := md266.ex x295 (x296)
  have rf301 := ((x295 a hl252).2.2.2.2.2.1 1).trans rf267
  have fa302 := fa268.ex hl252 x295
  have fa303 := fa269.ex hl252 x295
  have ofa303 := ofa269.ex hl252 x295
  have fa304 := fa270.ex hl252 x295
  have fa305 := fa271.ex hl252 x295
  have fa306 := fa272.ex hl252 x295
  have fa307 := fa273.ex hl252 x295
  have z308 : ∀ j, I289 a j = 0 := fun j => ((x295 a hl252).2.2.2.2.1 j).trans (z251 j)
  have hl309 := (x295 a hl252).1
  have hk310 := ((x295 a hl252).2.1).trans hk253
  have hl311 := (x295 q1 hl254).1
  have hk312 := ((x295 q1 hl254).2.1).trans hk255
  have hl313 := (x295 q35 hl256).1
  have hk314 := ((x295 q35 hl256).2.1).trans hk257
  have hl315 := (x295 q74 hl258).1
  have hk316 := ((x295 q74 hl258).2.1).trans hk259
  have hl317 := (x295 q118 hl260).1
  have hk318 := ((x295 q118 hl260).2.1).trans hk261
  have hl319 := (x295 q166 hl262).1
  have hk320 := ((x295 q166 hl262).2.1).trans hk263
  have hl321 := (x295 q218 x241).1
  have hk322 := ((x295 q218 x241).2.1).trans x242
  refine a_putR C K292 hl309 hk310 f_11_52 p_11_6 hin rfl rfl rfl dX11_init_90 (fun R323 hR324 => ?_)
  have md325 := md300.putR ha hR324
  have rf326 : R323 a 1 = some q35 := by rw [hR324, u2_j (by decide)]; exact rf301
  have fa327 := fa302.put hR324 (show 0 ≠ 6 by decide)
  have fa328 := fa303.put hR324 (show 1 ≠ 6 by decide)
  have ofa328 := ofa303.put hR324 (show 1 ≠ 6 by decide)
  have fa329 := fa304.put hR324 (show 2 ≠ 6 by decide)
  have fa330 := fa305.put hR324 (show 3 ≠ 6 by decide)
  have fa331 := fa306.put hR324 (show 4 ≠ 6 by decide)
  have fa332 := fa307.put hR324 (show 5 ≠ 6 by decide)
  have fa333 : Fa L285 κ286 ln287 R323 ow294 I289 a 6 0 0 := Fa.new hR324 x297 x298 (fun h => absurd h (by decide))
  refine g_aload_n C 0 dX11_init_93 rfl rfl ?_
  refine a_new (ow := ow294) C K292 hA (a, 0) (by decide) rfl u_in7 tyX7 tyX7_ok cl_11_56 df_7 ⟨Nat.le_of_ble_eq_true rfl, Nat.le_of_ble_eq_true rfl⟩ dX11_init_94 (fun q334 L335 κ336 ln337 R338 I339 J340 ow341 hq342 K343 => ?_)
  refine g_dup C dX11_init_97 rfl ?_
  have hE344 := hq342.2.2.2.2.2.2.2.2
  refine a_initN C K343 hN hA (i_7 (ow := ow341) hq342.2.1 hq342.2.2.2.1 hq342.2.2.2.2.2.2.1 ) En_blind (fun _ _ U _ _ hW => hN.warm hW) jw_11_58 rfl ⟨rfl, rfl⟩ ⟨Nat.le_of_ble_eq_true rfl, Nat.le_of_ble_eq_true rfl⟩ (Nat.le_of_ble_eq_true rfl) ⟨Nat.le_of_ble_eq_true rfl, Nat.le_of_ble_eq_true rfl⟩ dX11_init_98 (st := [.ref q334, .ref a]) rfl (fun L345 κ346 ln347 R348 I349 J350 hp351 K352 => ?_)
  obtain ⟨ow354, x355, x356, x357, x358, x359⟩ := nq_pi hq342 hp351
  have md360 := md325.ex x355 (x356)
  have rf361 := ((x355 a hl309).2.2.2.2.2.1 1).trans rf326
  have fa362 := fa327.ex hl309 x355
  have fa363 := fa328.ex hl309 x355
  have ofa363 := ofa328.ex hl309 x355
  have fa364 := fa329.ex hl309 x355
  have fa365 := fa330.ex hl309 x355
  have fa366 := fa331.ex hl309 x355
  have fa367 := fa332.ex hl309 x355
  have fa368 := fa333.ex hl309 x355
  have z369 : ∀ j, I349 a j = 0 := fun j => ((x355 a hl309).2.2.2.2.1 j).trans (z308 j)
  have hl370 := (x355 a hl309).1
  have hk371 := ((x355 a hl309).2.1).trans hk310
  have hl372 := (x355 q1 hl311).1
  have hk373 := ((x355 q1 hl311).2.1).trans hk312
  have hl374 := (x355 q35 hl313).1
  have hk375 := ((x355 q35 hl313).2.1).trans hk314
  have hl376 := (x355 q74 hl315).1
  have hk377 := ((x355 q74 hl315).2.1).trans hk316
  have hl378 := (x355 q118 hl317).1
  have hk379 := ((x355 q118 hl317).2.1).trans hk318
  have hl380 := (x355 q166 hl319).1
  have hk381 := ((x355 q166 hl319).2.1).trans hk320
  have hl382 := (x355 q218 hl321).1
  have hk383 := ((x355 q218 hl321).2.1).trans hk322
  have hl384 := (x355 q274 x297).1
  have hk385 := ((x355 q274 x297).2.1).trans x298
  refine a_putR C K352 hl370 hk371 f_11_59 p_11_7 hin rfl rfl rfl dX11_init_101 (fun R386 hR387 => ?_)
  have md388 := md360.putR ha hR387
  have rf389 : R386 a 1 = some q35 := by rw [hR387, u2_j (by decide)]; exact rf361
  have fa390 := fa362.put hR387 (show 0 ≠ 7 by decide)
  have fa391 := fa363.put hR387 (show 1 ≠ 7 by decide)
  have ofa391 := ofa363.put hR387 (show 1 ≠ 7 by decide)
  have fa392 := fa364.put hR387 (show 2 ≠ 7 by decide)
  have fa393 := fa365.put hR387 (show 3 ≠ 7 by decide)
  have fa394 := fa366.put hR387 (show 4 ≠ 7 by decide)
  have fa395 := fa367.put hR387 (show 5 ≠ 7 by decide)
  have fa396 := fa368.put hR387 (show 6 ≠ 7 by decide)
  have fa397 : Fa L345 κ346 ln347 R386 ow354 I349 a 7 7 0 := Fa.new hR387 x357 x358 (fun h => absurd h (by decide))
  refine g_aload_n C 0 dX11_init_104 rfl rfl ?_
  refine a_new (ow := ow354) C K352 hA (a, 0) (by decide) rfl u_in7 tyX7 tyX7_ok cl_11_56 df_7 ⟨Nat.le_of_ble_eq_true rfl, Nat.le_of_ble_eq_true rfl⟩ dX11_init_105 (fun q398 L399 κ400 ln401 R402 I403 J404 ow405 hq406 K407 => ?_)
  refine g_dup C dX11_init_108 rfl ?_
  have hE408 := hq406.2.2.2.2.2.2.2.2
  refine a_initN C K407 hN hA (i_7 (ow := ow405) hq406.2.1 hq406.2.2.2.1 hq406.2.2.2.2.2.2.1 ) En_blind (fun _ _ U _ _ hW => hN.warm hW) jw_11_58 rfl ⟨rfl, rfl⟩ ⟨Nat.le_of_ble_eq_true rfl, Nat.le_of_ble_eq_true rfl⟩ (Nat.le_of_ble_eq_true rfl) ⟨Nat.le_of_ble_eq_true rfl, Nat.le_of_ble_eq_true rfl⟩ dX11_init_109 (st := [.ref q398, .ref a]) rfl (fun L409 κ410 ln411 R412 I413 J414 hp415 K416 => ?_)
  obtain ⟨ow418, x419, x420, x421, x422, x423⟩ := nq_pi hq406 hp415
  have md424 := md388.ex x419 (x420)
  have rf425 := ((x419 a hl370).2.2.2.2.2.1 1).trans rf389
  have fa426 := fa390.ex hl370 x419
  have fa427 := fa391.ex hl370 x419
  have ofa427 := ofa391.ex hl370 x419
  have fa428 := fa392.ex hl370 x419
  have fa429 := fa393.ex hl370 x419
  have fa430 := fa394.ex hl370 x419
  have fa431 := fa395.ex hl370 x419
  have fa432 := fa396.ex hl370 x419
  have fa433 := fa397.ex hl370 x419
  have z434 : ∀ j, I413 a j = 0 := fun j => ((x419 a hl370).2.2.2.2.1 j).trans (z369 j)
  have hl435 := (x419 a hl370).1
  have hk436 := ((x419 a hl370).2.1).trans hk371
  have hl437 := (x419 q1 hl372).1
  have hk438 := ((x419 q1 hl372).2.1).trans hk373
  have hl439 := (x419 q35 hl374).1
  have hk440 := ((x419 q35 hl374).2.1).trans hk375
  have hl441 := (x419 q74 hl376).1
  have hk442 := ((x419 q74 hl376).2.1).trans hk377
  have hl443 := (x419 q118 hl378).1
  have hk444 := ((x419 q118 hl378).2.1).trans hk379
  have hl445 := (x419 q166 hl380).1
  have hk446 := ((x419 q166 hl380).2.1).trans hk381
  have hl447 := (x419 q218 hl382).1
  have hk448 := ((x419 q218 hl382).2.1).trans hk383
  have hl449 := (x419 q274 hl384).1
  have hk450 := ((x419 q274 hl384).2.1).trans hk385
  have hl451 := (x419 q334 x357).1
  have hk452 := ((x419 q334 x357).2.1).trans x358
  refine a_putR C K416 hl435 hk436 f_11_63 p_11_8 hin rfl rfl rfl dX11_init_112 (fun R453 hR454 => ?_)
  have md455 := md424.putR ha hR454
  have rf456 : R453 a 1 = some q35 := by rw [hR454, u2_j (by decide)]; exact rf425
  have fa457 := fa426.put hR454 (show 0 ≠ 8 by decide)
  have fa458 := fa427.put hR454 (show 1 ≠ 8 by decide)
  have ofa458 := ofa427.put hR454 (show 1 ≠ 8 by decide)
  have fa459 := fa428.put hR454 (show 2 ≠ 8 by decide)
  have fa460 := fa429.put hR454 (show 3 ≠ 8 by decide)
  have fa461 := fa430.put hR454 (show 4 ≠ 8 by decide)
  have fa462 := fa431.put hR454 (show 5 ≠ 8 by decide)
  have fa463 := fa432.put hR454 (show 6 ≠ 8 by decide)
  have fa464 := fa433.put hR454 (show 7 ≠ 8 by decide)
  have fa465 : Fa L409 κ410 ln411 R453 ow418 I413 a 8 7 0 := Fa.new hR454 x421 x422 (fun h => absurd h (by decide))
  refine g_aload_n C 0 dX11_init_115 rfl rfl ?_
  refine a_new (ow := ow418) C K416 hA (a, 0) (by decide) rfl u_in4 tyX4 tyX4_ok cl_11_66 df_4 ⟨Nat.le_of_ble_eq_true rfl, Nat.le_of_ble_eq_true rfl⟩ dX11_init_116 (fun q466 L467 κ468 ln469 R470 I471 J472 ow473 hq474 K475 => ?_)
  refine g_dup C dX11_init_119 rfl ?_
  refine g_aload_n C 0 dX11_init_120 rfl rfl ?_
  refine g_getR C K475 (hq474.2.2.2.2.2.2.2.2 a hl435).1 (((hq474.2.2.2.2.2.2.2.2 a hl435).2.1).trans hk436) f_11_19 (b := q35) (((hq474.2.2.2.2.2.2.2.2 a hl435).2.2.2.2.2.1 1).trans rf456) dX11_init_121 ?_
  have hE476 := hq474.2.2.2.2.2.2.2.2
  refine a_init C K475 hA (i_4 (ow := ow473) hq474.2.1 hq474.2.2.2.1 hq474.2.2.2.2.2.2.1 (hE476 q35 hl439).1 (((hE476 q35 hl439).2.1).trans hk440)) En_blind (fun _ _ U _ _ hW => hN.warm hW) iw_11_68 rfl ⟨rfl, rfl⟩ ⟨Nat.le_of_ble_eq_true rfl, Nat.le_of_ble_eq_true rfl⟩ (Nat.le_of_ble_eq_true rfl) ⟨Nat.le_of_ble_eq_true rfl, Nat.le_of_ble_eq_true rfl⟩ dX11_init_124 (st := [.ref q466, .ref a]) rfl (fun L477 κ478 ln479 R480 I481 J482 hp483 K484 => ?_)
  obtain ⟨ow486, x487, x488, x489, x490, x491⟩ := nq_pi hq474 hp483
  have md492 := md455.ex x487 (x488)
  have rf493 := ((x487 a hl435).2.2.2.2.2.1 1).trans rf456
  have fa494 := fa457.ex hl435 x487
  have fa495 := fa458.ex hl435 x487
  have ofa495 := ofa458.ex hl435 x487
  have fa496 := fa459.ex hl435 x487
  have fa497 := fa460.ex hl435 x487
  have fa498 := fa461.ex hl435 x487
  have fa499 := fa462.ex hl435 x487
  have fa500 := fa463.ex hl435 x487
  have fa501 := fa464.ex hl435 x487
  have fa502 := fa465.ex hl435 x487
  have z503 : ∀ j, I481 a j = 0 := fun j => ((x487 a hl435).2.2.2.2.1 j).trans (z434 j)
  have hl504 := (x487 a hl435).1
  have hk505 := ((x487 a hl435).2.1).trans hk436
  have hl506 := (x487 q1 hl437).1
  have hk507 := ((x487 q1 hl437).2.1).trans hk438
  have hl508 := (x487 q35 hl439).1
  have hk509 := ((x487 q35 hl439).2.1).trans hk440
  have hl510 := (x487 q74 hl441).1
  have hk511 := ((x487 q74 hl441).2.1).trans hk442
  have hl512 := (x487 q118 hl443).1
  have hk513 := ((x487 q118 hl443).2.1).trans hk444
  have hl514 := (x487 q166 hl445).1
  have hk515 := ((x487 q166 hl445).2.1).trans hk446
  have hl516 := (x487 q218 hl447).1
  have hk517 := ((x487 q218 hl447).2.1).trans hk448
  have hl518 := (x487 q274 hl449).1
  have hk519 := ((x487 q274 hl449).2.1).trans hk450
  have hl520 := (x487 q334 hl451).1
  have hk521 := ((x487 q334 hl451).2.1).trans hk452
  have hl522 := (x487 q398 x421).1
  have hk523 := ((x487 q398 x421).2.1).trans x422
  refine a_putR C K484 hl504 hk505 f_11_69 p_11_9 hin rfl rfl rfl dX11_init_127 (fun R524 hR525 => ?_)
  have md526 := md492.putR ha hR525
  have rf527 : R524 a 1 = some q35 := by rw [hR525, u2_j (by decide)]; exact rf493
  have fa528 := fa494.put hR525 (show 0 ≠ 9 by decide)
  have fa529 := fa495.put hR525 (show 1 ≠ 9 by decide)
  have ofa529 := ofa495.put hR525 (show 1 ≠ 9 by decide)
  have fa530 := fa496.put hR525 (show 2 ≠ 9 by decide)
  have fa531 := fa497.put hR525 (show 3 ≠ 9 by decide)
  have fa532 := fa498.put hR525 (show 4 ≠ 9 by decide)
  have fa533 := fa499.put hR525 (show 5 ≠ 9 by decide)
  have fa534 := fa500.put hR525 (show 6 ≠ 9 by decide)
  have fa535 := fa501.put hR525 (show 7 ≠ 9 by decide)
  have fa536 := fa502.put hR525 (show 8 ≠ 9 by decide)
  have fa537 : Fa L477 κ478 ln479 R524 ow486 I481 a 9 4 0 := Fa.new hR525 x489 x490 (fun h => absurd h (by decide))
  refine g_aload_n C 0 dX11_init_130 rfl rfl ?_
  refine a_new (ow := ow486) C K484 hA (a, 0) (by decide) rfl u_in6 tyX6 tyX6_ok cl_11_73 df_6 ⟨Nat.le_of_ble_eq_true rfl, Nat.le_of_ble_eq_true rfl⟩ dX11_init_131 (fun q538 L539 κ540 ln541 R542 I543 J544 ow545 hq546 K547 => ?_)
  refine g_dup C dX11_init_134 rfl ?_
  have hE548 := hq546.2.2.2.2.2.2.2.2
  refine a_initN C K547 hN hA (i_6 (ow := ow545) hq546.2.1 hq546.2.2.2.1 hq546.2.2.2.2.2.2.1 ) En_blind (fun _ _ U _ _ hW => hN.warm hW) jw_11_75 rfl ⟨rfl, rfl⟩ ⟨Nat.le_of_ble_eq_true rfl, Nat.le_of_ble_eq_true rfl⟩ (Nat.le_of_ble_eq_true rfl) ⟨Nat.le_of_ble_eq_true rfl, Nat.le_of_ble_eq_true rfl⟩ dX11_init_135 (st := [.ref q538, .ref a]) rfl (fun L549 κ550 ln551 R552 I553 J554 hp555 K556 => ?_)
  obtain ⟨ow558, x559, x560, x561, x562, x563⟩ := nq_pi hq546 hp555
  have md564 := md526.ex x559 (x560)
  have rf565 := ((x559 a hl504).2.2.2.2.2.1 1).trans rf527
  have fa566 := fa528.ex hl504 x559
  have fa567 := fa529.ex hl504 x559
  have ofa567 := ofa529.ex hl504 x559
  have fa568 := fa530.ex hl504 x559
  have fa569 := fa531.ex hl504 x559
  have fa570 := fa532.ex hl504 x559
  have fa571 := fa533.ex hl504 x559
  have fa572 := fa534.ex hl504 x559
  have fa573 := fa535.ex hl504 x559
  have fa574 := fa536.ex hl504 x559
  have fa575 := fa537.ex hl504 x559
  have z576 : ∀ j, I553 a j = 0 := fun j => ((x559 a hl504).2.2.2.2.1 j).trans (z503 j)
  have hl577 := (x559 a hl504).1
  have hk578 := ((x559 a hl504).2.1).trans hk505
  have hl579 := (x559 q1 hl506).1
  have hk580 := ((x559 q1 hl506).2.1).trans hk507
  have hl581 := (x559 q35 hl508).1
  have hk582 := ((x559 q35 hl508).2.1).trans hk509
  have hl583 := (x559 q74 hl510).1
  have hk584 := ((x559 q74 hl510).2.1).trans hk511
  have hl585 := (x559 q118 hl512).1
  have hk586 := ((x559 q118 hl512).2.1).trans hk513
  have hl587 := (x559 q166 hl514).1
  have hk588 := ((x559 q166 hl514).2.1).trans hk515
  have hl589 := (x559 q218 hl516).1
  have hk590 := ((x559 q218 hl516).2.1).trans hk517
  have hl591 := (x559 q274 hl518).1
  have hk592 := ((x559 q274 hl518).2.1).trans hk519
  have hl593 := (x559 q334 hl520).1
  have hk594 := ((x559 q334 hl520).2.1).trans hk521
  have hl595 := (x559 q398 hl522).1
  have hk596 := ((x559 q398 hl522).2.1).trans hk523
  have hl597 := (x559 q466 x489).1
  have hk598 := ((x559 q466 x489).2.1).trans x490
  refine a_putR C K556 hl577 hk578 f_11_76 p_11_10 hin rfl rfl rfl dX11_init_138 (fun R599 hR600 => ?_)
  have md601 := md564.putR ha hR600
  have rf602 : R599 a 1 = some q35 := by rw [hR600, u2_j (by decide)]; exact rf565
  have fa603 := fa566.put hR600 (show 0 ≠ 10 by decide)
  have fa604 := fa567.put hR600 (show 1 ≠ 10 by decide)
  have ofa604 := ofa567.put hR600 (show 1 ≠ 10 by decide)
  have fa605 := fa568.put hR600 (show 2 ≠ 10 by decide)
  have fa606 := fa569.put hR600 (show 3 ≠ 10 by decide)
  have fa607 := fa570.put hR600 (show 4 ≠ 10 by decide)
  have fa608 := fa571.put hR600 (show 5 ≠ 10 by decide)
  have fa609 := fa572.put hR600 (show 6 ≠ 10 by decide)
  have fa610 := fa573.put hR600 (show 7 ≠ 10 by decide)
  have fa611 := fa574.put hR600 (show 8 ≠ 10 by decide)
  have fa612 := fa575.put hR600 (show 9 ≠ 10 by decide)
  have fa613 : Fa L549 κ550 ln551 R599 ow558 I553 a 10 6 0 := Fa.new hR600 x561 x562 (fun h => absurd h (by decide))
  refine g_aload_n C 0 dX11_init_141 rfl rfl ?_
  refine a_new (ow := ow558) C K556 hA (a, 0) (by decide) rfl u_in2 tyX2 tyX2_ok cl_11_80 df_2 ⟨Nat.le_of_ble_eq_true rfl, Nat.le_of_ble_eq_true rfl⟩ dX11_init_142 (fun q614 L615 κ616 ln617 R618 I619 J620 ow621 hq622 K623 => ?_)
  refine g_dup C dX11_init_145 rfl ?_
  have hE624 := hq622.2.2.2.2.2.2.2.2
  refine a_initN C K623 hN hA (i_2 (ow := ow621) hq622.2.1 hq622.2.2.2.1 hq622.2.2.2.2.2.2.1 ) En_blind (fun _ _ U _ _ hW => hN.warm hW) jw_11_82 rfl ⟨rfl, rfl⟩ ⟨Nat.le_of_ble_eq_true rfl, Nat.le_of_ble_eq_true rfl⟩ (Nat.le_of_ble_eq_true rfl) ⟨Nat.le_of_ble_eq_true rfl, Nat.le_of_ble_eq_true rfl⟩ dX11_init_146 (st := [.ref q614, .ref a]) rfl (fun L625 κ626 ln627 R628 I629 J630 hp631 K632 => ?_)
  obtain ⟨ow634, x635, x636, x637, x638, x639⟩ := nq_pi hq622 hp631
  have md640 := md601.ex x635 (x636)
  have rf641 := ((x635 a hl577).2.2.2.2.2.1 1).trans rf602
  have fa642 := fa603.ex hl577 x635
  have fa643 := fa604.ex hl577 x635
  have ofa643 := ofa604.ex hl577 x635
  have fa644 := fa605.ex hl577 x635
  have fa645 := fa606.ex hl577 x635
  have fa646 := fa607.ex hl577 x635
  have fa647 := fa608.ex hl577 x635
  have fa648 := fa609.ex hl577 x635
  have fa649 := fa610.ex hl577 x635
  have fa650 := fa611.ex hl577 x635
  have fa651 := fa612.ex hl577 x635
  have fa652 := fa613.ex hl577 x635
  have z653 : ∀ j, I629 a j = 0 := fun j => ((x635 a hl577).2.2.2.2.1 j).trans (z576 j)
  have hl654 := (x635 a hl577).1
  have hk655 := ((x635 a hl577).2.1).trans hk578
  have hl656 := (x635 q1 hl579).1
  have hk657 := ((x635 q1 hl579).2.1).trans hk580
  have hl658 := (x635 q35 hl581).1
  have hk659 := ((x635 q35 hl581).2.1).trans hk582
  have hl660 := (x635 q74 hl583).1
  have hk661 := ((x635 q74 hl583).2.1).trans hk584
  have hl662 := (x635 q118 hl585).1
  have hk663 := ((x635 q118 hl585).2.1).trans hk586
  have hl664 := (x635 q166 hl587).1
  have hk665 := ((x635 q166 hl587).2.1).trans hk588
  have hl666 := (x635 q218 hl589).1
  have hk667 := ((x635 q218 hl589).2.1).trans hk590
  have hl668 := (x635 q274 hl591).1
  have hk669 := ((x635 q274 hl591).2.1).trans hk592
  have hl670 := (x635 q334 hl593).1
  have hk671 := ((x635 q334 hl593).2.1).trans hk594
  have hl672 := (x635 q398 hl595).1
  have hk673 := ((x635 q398 hl595).2.1).trans hk596
  have hl674 := (x635 q466 hl597).1
  have hk675 := ((x635 q466 hl597).2.1).trans hk598
  have hl676 := (x635 q538 x561).1
  have hk677 := ((x635 q538 x561).2.1).trans x562
  refine a_putR C K632 hl654 hk655 f_11_83 p_11_11 hin rfl rfl rfl dX11_init_149 (fun R678 hR679 => ?_)
  have md680 := md640.putR ha hR679
  have rf681 : R678 a 1 = some q35 := by rw [hR679, u2_j (by decide)]; exact rf641
  have fa682 := fa642.put hR679 (show 0 ≠ 11 by decide)
  have fa683 := fa643.put hR679 (show 1 ≠ 11 by decide)
  have ofa683 := ofa643.put hR679 (show 1 ≠ 11 by decide)
  have fa684 := fa644.put hR679 (show 2 ≠ 11 by decide)
  have fa685 := fa645.put hR679 (show 3 ≠ 11 by decide)
  have fa686 := fa646.put hR679 (show 4 ≠ 11 by decide)
  have fa687 := fa647.put hR679 (show 5 ≠ 11 by decide)
  have fa688 := fa648.put hR679 (show 6 ≠ 11 by decide)
  have fa689 := fa649.put hR679 (show 7 ≠ 11 by decide)
  have fa690 := fa650.put hR679 (show 8 ≠ 11 by decide)
  have fa691 := fa651.put hR679 (show 9 ≠ 11 by decide)
  have fa692 := fa652.put hR679 (show 10 ≠ 11 by decide)
  have fa693 : Fa L625 κ626 ln627 R678 ow634 I629 a 11 2 0 := Fa.new hR679 x637 x638 (fun h => absurd h (by decide))
  refine g_aload_n C 0 dX11_init_152 rfl rfl ?_
  refine g_iconst C (v := 2) dX11_init_153 (by decide) ?_
  refine a_newqI (ow := ow634) C K632 hA (a, 12) 2 (by decide) (by decide) (by decide) cl_11_87.1 hN.2.2 ⟨Nat.le_of_ble_eq_true rfl, Nat.le_of_ble_eq_true rfl⟩ dX11_init_154 (fun q694 L695 κ696 ln697 R698 I699 J700 ow701 hq702 K703 => ?_)
  have hE704 := hq702.2.2.2.2.2.2.2.2
  have rf705 := ((hE704 a hl654).2.2.2.2.2.1 1).trans rf681
  have fa706 := fa682.ex hl654 hE704
  have fa707 := fa683.ex hl654 hE704
  have ofa707 := ofa683.ex hl654 hE704
  have fa708 := fa684.ex hl654 hE704
  have fa709 := fa685.ex hl654 hE704
  have fa710 := fa686.ex hl654 hE704
  have fa711 := fa687.ex hl654 hE704
  have fa712 := fa688.ex hl654 hE704
  have fa713 := fa689.ex hl654 hE704
  have fa714 := fa690.ex hl654 hE704
  have fa715 := fa691.ex hl654 hE704
  have fa716 := fa692.ex hl654 hE704
  have fa717 := fa693.ex hl654 hE704
  have z718 : ∀ j, I699 a j = 0 := fun j => ((hE704 a hl654).2.2.2.2.1 j).trans (z653 j)
  have hl719 := (hE704 a hl654).1
  have hk720 := ((hE704 a hl654).2.1).trans hk655
  have hl721 := (hE704 q1 hl656).1
  have hk722 := ((hE704 q1 hl656).2.1).trans hk657
  have hl723 := (hE704 q35 hl658).1
  have hk724 := ((hE704 q35 hl658).2.1).trans hk659
  have hl725 := (hE704 q74 hl660).1
  have hk726 := ((hE704 q74 hl660).2.1).trans hk661
  have hl727 := (hE704 q118 hl662).1
  have hk728 := ((hE704 q118 hl662).2.1).trans hk663
  have hl729 := (hE704 q166 hl664).1
  have hk730 := ((hE704 q166 hl664).2.1).trans hk665
  have hl731 := (hE704 q218 hl666).1
  have hk732 := ((hE704 q218 hl666).2.1).trans hk667
  have hl733 := (hE704 q274 hl668).1
  have hk734 := ((hE704 q274 hl668).2.1).trans hk669
  have hl735 := (hE704 q334 hl670).1
  have hk736 := ((hE704 q334 hl670).2.1).trans hk671
  have hl737 := (hE704 q398 hl672).1
  have hk738 := ((hE704 q398 hl672).2.1).trans hk673
  have hl739 := (hE704 q466 hl674).1
  have hk740 := ((hE704 q466 hl674).2.1).trans hk675
  have hl741 := (hE704 q538 hl676).1
  have hk742 := ((hE704 q538 hl676).2.1).trans hk677
  have hl743 := (hE704 q614 x637).1
  have hk744 := ((hE704 q614 x637).2.1).trans x638
  refine a_putR C K703 hl719 hk720 f_11_89 p_11_12 hin rfl rfl rfl dX11_init_157 (fun R745 hR746 => ?_)
  have md747 := Lp_.new (ed := 3) md680 ha hq702 hR746
  have rf748 : R745 a 1 = some q35 := by rw [hR746, u2_j (by decide)]; exact rf705
  have fa749 := fa706.put hR746 (show 0 ≠ 12 by decide)
  have fa750 := fa707.put hR746 (show 1 ≠ 12 by decide)
  have ofa750 := ofa707.put hR746 (show 1 ≠ 12 by decide)
  have fa751 := fa708.put hR746 (show 2 ≠ 12 by decide)
  have fa752 := fa709.put hR746 (show 3 ≠ 12 by decide)
  have fa753 := fa710.put hR746 (show 4 ≠ 12 by decide)
  have fa754 := fa711.put hR746 (show 5 ≠ 12 by decide)
  have fa755 := fa712.put hR746 (show 6 ≠ 12 by decide)
  have fa756 := fa713.put hR746 (show 7 ≠ 12 by decide)
  have fa757 := fa714.put hR746 (show 8 ≠ 12 by decide)
  have fa758 := fa715.put hR746 (show 9 ≠ 12 by decide)
  have fa759 := fa716.put hR746 (show 10 ≠ 12 by decide)
  have fa760 := fa717.put hR746 (show 11 ≠ 12 by decide)
  refine g_aload_n C 0 dX11_init_160 rfl rfl ?_
  refine g_bipush C (v := 40) dX11_init_161 (by decide) ?_
  refine a_newB (ow := ow701) C K703 hA (a, 13) 40 (by decide) (by decide) (by decide) ar_byte ⟨Nat.le_of_ble_eq_true rfl, Nat.le_of_ble_eq_true rfl⟩ dX11_init_163 (fun q762 L763 κ764 ln765 R766 I767 J768 ow769 hq770 K771 => ?_)
  have hE772 := hq770.2.2.2.2.2.2.2.2
  have md773 := md747.ex hl719 hE772 (hq770.gd (by decide))
  have rf774 := ((hE772 a hl719).2.2.2.2.2.1 1).trans rf748
  have fa775 := fa749.ex hl719 hE772
  have fa776 := fa750.ex hl719 hE772
  have ofa776 := ofa750.ex hl719 hE772
  have fa777 := fa751.ex hl719 hE772
  have fa778 := fa752.ex hl719 hE772
  have fa779 := fa753.ex hl719 hE772
  have fa780 := fa754.ex hl719 hE772
  have fa781 := fa755.ex hl719 hE772
  have fa782 := fa756.ex hl719 hE772
  have fa783 := fa757.ex hl719 hE772
  have fa784 := fa758.ex hl719 hE772
  have fa785 := fa759.ex hl719 hE772
  have fa786 := fa760.ex hl719 hE772
  have z787 : ∀ j, I767 a j = 0 := fun j => ((hE772 a hl719).2.2.2.2.1 j).trans (z718 j)
  have hl788 := (hE772 a hl719).1
  have hk789 := ((hE772 a hl719).2.1).trans hk720
  have hl790 := (hE772 q1 hl721).1
  have hk791 := ((hE772 q1 hl721).2.1).trans hk722
  have hl792 := (hE772 q35 hl723).1
  have hk793 := ((hE772 q35 hl723).2.1).trans hk724
  have hl794 := (hE772 q74 hl725).1
  have hk795 := ((hE772 q74 hl725).2.1).trans hk726
  have hl796 := (hE772 q118 hl727).1
  have hk797 := ((hE772 q118 hl727).2.1).trans hk728
  have hl798 := (hE772 q166 hl729).1
  have hk799 := ((hE772 q166 hl729).2.1).trans hk730
  have hl800 := (hE772 q218 hl731).1
  have hk801 := ((hE772 q218 hl731).2.1).trans hk732
  have hl802 := (hE772 q274 hl733).1
  have hk803 := ((hE772 q274 hl733).2.1).trans hk734
  have hl804 := (hE772 q334 hl735).1
  have hk805 := ((hE772 q334 hl735).2.1).trans hk736
  have hl806 := (hE772 q398 hl737).1
  have hk807 := ((hE772 q398 hl737).2.1).trans hk738
  have hl808 := (hE772 q466 hl739).1
  have hk809 := ((hE772 q466 hl739).2.1).trans hk740
  have hl810 := (hE772 q538 hl741).1
  have hk811 := ((hE772 q538 hl741).2.1).trans hk742
  have hl812 := (hE772 q614 hl743).1
  have hk813 := ((hE772 q614 hl743).2.1).trans hk744
  have hl814 := (hE772 q694 hq702.2.1).1
  have hk815 := ((hE772 q694 hq702.2.1).2.1).trans hq702.2.2.2.1
  refine a_putR C K771 hl788 hk789 f_11_93 p_11_13 hin rfl rfl rfl dX11_init_165 (fun R816 hR817 => ?_)
  have md818 := md773.putR ha (by decide) hR817
  have rf819 : R816 a 1 = some q35 := by rw [hR817, u2_j (by decide)]; exact rf774
  have fa820 := fa775.put hR817 (show 0 ≠ 13 by decide)
  have fa821 := fa776.put hR817 (show 1 ≠ 13 by decide)
  have ofa821 := ofa776.put hR817 (show 1 ≠ 13 by decide)
  have fa822 := fa777.put hR817 (show 2 ≠ 13 by decide)
  have fa823 := fa778.put hR817 (show 3 ≠ 13 by decide)
  have fa824 := fa779.put hR817 (show 4 ≠ 13 by decide)
  have fa825 := fa780.put hR817 (show 5 ≠ 13 by decide)
  have fa826 := fa781.put hR817 (show 6 ≠ 13 by decide)
  have fa827 := fa782.put hR817 (show 7 ≠ 13 by decide)
  have fa828 := fa783.put hR817 (show 8 ≠ 13 by decide)
  have fa829 := fa784.put hR817 (show 9 ≠ 13 by decide)
  have fa830 := fa785.put hR817 (show 10 ≠ 13 by decide)
  have fa831 := fa786.put hR817 (show 11 ≠ 13 by decide)
  have fa832 : Fa L763 κ764 ln765 R816 ow769 I767 a 13 13 40 := Fa.new hR817 hq770.2.1 hq770.2.2.2.1 (fun _ => ⟨hq770.2.2.2.2.1, hq770.2.2.2.2.2.1⟩)
  refine g_aload_n C 0 dX11_init_168 rfl rfl ?_
  refine g_iconst C (v := 0) dX11_init_169 (by decide) ?_
  refine h_putI C K771 hl788 hk789 f_11_97 p_11_14 dX11_init_170 (fun I833 hI834 => ?_)
  have md835 := md818.putI ha hI834
  have z836 : ∀ j, I833 a j = 0 := fun j => by rw [hI834]; by_cases h : j = 14 <;> simp [u2_, h, z787]
  have fa837 := fa820.putI (I3 := I833)
  have fa838 := fa821.putI (I3 := I833)
  have ofa838 := ofa821
  have fa839 := fa822.putI (I3 := I833)
  have fa840 := fa823.putI (I3 := I833)
  have fa841 := fa824.putI (I3 := I833)
  have fa842 := fa825.putI (I3 := I833)
  have fa843 := fa826.putI (I3 := I833)
  have fa844 := fa827.putI (I3 := I833)
  have fa845 := fa828.putI (I3 := I833)
  have fa846 := fa829.putI (I3 := I833)
  have fa847 := fa830.putI (I3 := I833)
  have fa848 := fa831.putI (I3 := I833)
  have fa849 := fa832.putI (I3 := I833)
  refine g_iconst C (v := 0) dX11_init_173 (by decide) ?_
  refine g_istore_n C dX11_init_174 rfl (by decide) (lo2 := [(1, .int 0), (0, .ref a)]) rfl ?_
  have lp : ∀ (n i : Nat), i + n = 2 → ∀ (Lc : List Nat) (κc lnc : Nat → Nat) (Rc : Nat → Nat → Option Nat) (Ic : Nat → Nat → Int32) (Jc : Nat → Nat → Int64) (owc : Nat → Nat × Nat), a ∈ Lc → κc a = 11 → (∀ j, Ic a j = 0) → Fa Lc κc lnc Rc owc Ic a 0 10 0 → Fa Lc κc lnc Rc owc Ic a 1 8 0 → Oh Lc Rc owc a 1 → Fa Lc κc lnc Rc owc Ic a 2 1 0 → Fa Lc κc lnc Rc owc Ic a 3 1 0 → Fa Lc κc lnc Rc owc Ic a 4 5 0 → Fa Lc κc lnc Rc owc Ic a 5 9 0 → Fa Lc κc lnc Rc owc Ic a 6 0 0 → Fa Lc κc lnc Rc owc Ic a 7 7 0 → Fa Lc κc lnc Rc owc Ic a 8 7 0 → Fa Lc κc lnc Rc owc Ic a 9 4 0 → Fa Lc κc lnc Rc owc Ic a 10 6 0 → Fa Lc κc lnc Rc owc Ic a 11 2 0 → Fa Lc κc lnc Rc owc Ic a 13 13 40 → Lp_ a q694 12 18 3 2 i L κ ln R ow I J Lc κc lnc Rc owc Ic Jc → (2 ≤ i → Rc q694 0 ≠ Rc q694 1) → Wc_ D cy (AN_ L s.heap.size) Lc s → WG p l e { frames := 6, cells := 224, slots := 6778, locals := 400 } s m ([.ref a] : List Value).toArray below meth c 2 (186 + i * 19) (6174 + i * 302) (MQ below (Qn_ D cy L s.heap.size (Pj_ a L κ ln R ow I J)) ([.ref a] : List Value).toArray s 224 6778 (AN_ L s.heap.size)) D cy (AN_ L s.heap.size) s.heap Lc κc lnc Rc Ic Jc 175 [(1, .int (nI i)), (0, .ref a)] [] := by
    intro n
    induction n with
    | zero =>
      intro i hi Lc κc lnc Rc Ic Jc owc l_a k_a z_ fa_0 fa_1 ofa_1 fa_2 fa_3 fa_4 fa_5 fa_6 fa_7 fa_8 fa_9 fa_10 fa_11 fa_13 md_ dq_ K_
      refine g_iload_n C 0 dX11_init_175 rfl rfl ?_
      refine g_iconst C (v := 2) dX11_init_176 (by decide) ?_
      refine t_icmp_ge C (tgt := 199) (lt_ge (n := i) (k := 2) (by omega) (by omega)) dX11_init_177 (by decide) ?_
      obtain rfl : i = 2 := by omega
      obtain ⟨mdf, faf⟩ := md_.fin (by decide)
      refine a_wide (k := 224) (n := 6778) (by omega) (by omega) ?_
      refine a_vret B K_ ⟨⟨owc, mdf, ⟨fun k q hq h9 => ?_, fun h => absurd (k_a.symm.trans h) (by decide), fun h => absurd (k_a.symm.trans h) (by decide)⟩, fun j => ?_, fun h => absurd (k_a.symm.trans h) (by decide), fun k2 h2 => own_11 k_a h2 ofa_1⟩, fun A9 hA9 => by rw [md_.2.2.2.2.2.2.2.1] at hA9; cases hA9; exact dq_ (Nat.le_refl 2)⟩ dX11_init_199
      · rw [k_a] at hq
        match k, hq with
        | 0, hq => obtain rfl := Option.some.inj (show some (10, 0) = some q from hq); exact fa_0
        | 1, hq => obtain rfl := Option.some.inj (show some (8, 0) = some q from hq); exact fa_1
        | 2, hq => obtain rfl := Option.some.inj (show some (1, 0) = some q from hq); exact fa_2
        | 3, hq => obtain rfl := Option.some.inj (show some (1, 0) = some q from hq); exact fa_3
        | 4, hq => obtain rfl := Option.some.inj (show some (5, 0) = some q from hq); exact fa_4
        | 5, hq => obtain rfl := Option.some.inj (show some (9, 0) = some q from hq); exact fa_5
        | 6, hq => obtain rfl := Option.some.inj (show some (0, 0) = some q from hq); exact fa_6
        | 7, hq => obtain rfl := Option.some.inj (show some (7, 0) = some q from hq); exact fa_7
        | 8, hq => obtain rfl := Option.some.inj (show some (7, 0) = some q from hq); exact fa_8
        | 9, hq => obtain rfl := Option.some.inj (show some (4, 0) = some q from hq); exact fa_9
        | 10, hq => obtain rfl := Option.some.inj (show some (6, 0) = some q from hq); exact fa_10
        | 11, hq => obtain rfl := Option.some.inj (show some (2, 0) = some q from hq); exact fa_11
        | 12, hq => obtain rfl := Option.some.inj (show some (18, 2) = some q from hq); exact faf
        | 13, hq => obtain rfl := Option.some.inj (show some (13, 40) = some q from hq); exact fa_13
        | k + 14, hq => exact absurd hq (by simp [rt_])
      · rw [z_ j, k_a]; simp [fv_]
    | succ n ih =>
      intro i hi Lc κc lnc Rc Ic Jc owc l_a k_a z_ fa_0 fa_1 ofa_1 fa_2 fa_3 fa_4 fa_5 fa_6 fa_7 fa_8 fa_9 fa_10 fa_11 fa_13 md_ dq_ K_
      refine g_iload_n C 0 dX11_init_175 rfl rfl ?_
      refine g_iconst C (v := 2) dX11_init_176 (by decide) ?_
      refine n_icmp_ge C (tgt := 199) (ln_ge (n := i) (k := 2) (by omega) (by omega)) dX11_init_177 (by decide) ?_
      refine g_aload_n C 1 dX11_init_180 rfl rfl ?_
      refine g_getR C K_ l_a k_a f_11_89 (b := q694) (md_.2.2.2.2.2.2.2.1) dX11_init_181 ?_
      refine g_iload_n C 0 dX11_init_184 rfl rfl ?_
      refine a_new (ow := owc) C K_ hA (a, 0) (by decide) rfl u_in3 tyX3 tyX3_ok cl_11_87 df_3 ⟨show _ ≤ 224 by omega, show _ ≤ 6778 by omega⟩ dX11_init_185 (fun q850 L851 κ852 ln853 R854 I855 J856 ow857 hq858 K859 => ?_)
      refine g_dup C dX11_init_188 rfl ?_
      have hE860 := hq858.2.2.2.2.2.2.2.2
      refine a_initN C K859 hN hA (i_3 (ow := ow857) hq858.2.1 hq858.2.2.2.1 hq858.2.2.2.2.2.2.1 ) En_blind (fun _ _ U _ _ hW => hN.warm hW) jw_11_101 rfl ⟨rfl, rfl⟩ ⟨Nat.le_of_ble_eq_true rfl, Nat.le_of_ble_eq_true rfl⟩ (Nat.le_of_ble_eq_true rfl) ⟨show _ ≤ 224 by omega, show _ ≤ 6778 by omega⟩ dX11_init_189 (st := [.ref q850, .int (nI i), .ref q694]) rfl (fun L861 κ862 ln863 R864 I865 J866 hp867 K868 => ?_)
      obtain ⟨ow870, x871, x872, x873, x874, x875⟩ := nq_pi hq858 hp867
      have md876 := md_.ex l_a x871 (x872)
      have fa877 := fa_0.ex l_a x871
      have fa878 := fa_1.ex l_a x871
      have ofa878 := ofa_1.ex l_a x871
      have fa879 := fa_2.ex l_a x871
      have fa880 := fa_3.ex l_a x871
      have fa881 := fa_4.ex l_a x871
      have fa882 := fa_5.ex l_a x871
      have fa883 := fa_6.ex l_a x871
      have fa884 := fa_7.ex l_a x871
      have fa885 := fa_8.ex l_a x871
      have fa886 := fa_9.ex l_a x871
      have fa887 := fa_10.ex l_a x871
      have fa888 := fa_11.ex l_a x871
      have fa889 := fa_13.ex l_a x871
      have z890 : ∀ j, I865 a j = 0 := fun j => ((x871 a l_a).2.2.2.2.1 j).trans (z_ j)
      have hl891 := (x871 a l_a).1
      have hk892 := ((x871 a l_a).2.1).trans k_a
      have hxR893 := md876.2.2.1
      refine g_aastI C K868 md876.2.2.1 md876.2.2.2.2.1 x873 x874 (vi_of (nI_clamp (by omega)) (nI_pos (by omega)) (by rw [md876.2.2.2.2.2.1]; omega)) dX11_init_192 ?_
      rw [nI_clamp (show i < 2147483648 by omega)]
      obtain ⟨R893, hR894⟩ : ∃ z, z = u2_ R864 q694 (i) (some q850) := ⟨_, rfl⟩
      rw [← hR894]
      have hax895 : a ≠ q694 := fun z => md876.2.2.2.1 (z ▸ ha)
      have fa896 : Fa L861 κ862 ln863 R893 ow870 I865 a 0 10 0 := by obtain ⟨b, h1, h2⟩ := fa877; exact ⟨b, by rw [hR894, u2_b hax895]; exact h1, h2⟩
      have fa897 : Fa L861 κ862 ln863 R893 ow870 I865 a 1 8 0 := by obtain ⟨b, h1, h2⟩ := fa878; exact ⟨b, by rw [hR894, u2_b hax895]; exact h1, h2⟩
      have ofa897 : Oh L861 R893 ow870 a 1 := fun t ht => by rw [hR894, u2_b hax895] at ht; exact ofa878 t ht
      have fa898 : Fa L861 κ862 ln863 R893 ow870 I865 a 2 1 0 := by obtain ⟨b, h1, h2⟩ := fa879; exact ⟨b, by rw [hR894, u2_b hax895]; exact h1, h2⟩
      have fa899 : Fa L861 κ862 ln863 R893 ow870 I865 a 3 1 0 := by obtain ⟨b, h1, h2⟩ := fa880; exact ⟨b, by rw [hR894, u2_b hax895]; exact h1, h2⟩
      have fa900 : Fa L861 κ862 ln863 R893 ow870 I865 a 4 5 0 := by obtain ⟨b, h1, h2⟩ := fa881; exact ⟨b, by rw [hR894, u2_b hax895]; exact h1, h2⟩
      have fa901 : Fa L861 κ862 ln863 R893 ow870 I865 a 5 9 0 := by obtain ⟨b, h1, h2⟩ := fa882; exact ⟨b, by rw [hR894, u2_b hax895]; exact h1, h2⟩
      have fa902 : Fa L861 κ862 ln863 R893 ow870 I865 a 6 0 0 := by obtain ⟨b, h1, h2⟩ := fa883; exact ⟨b, by rw [hR894, u2_b hax895]; exact h1, h2⟩
      have fa903 : Fa L861 κ862 ln863 R893 ow870 I865 a 7 7 0 := by obtain ⟨b, h1, h2⟩ := fa884; exact ⟨b, by rw [hR894, u2_b hax895]; exact h1, h2⟩
      have fa904 : Fa L861 κ862 ln863 R893 ow870 I865 a 8 7 0 := by obtain ⟨b, h1, h2⟩ := fa885; exact ⟨b, by rw [hR894, u2_b hax895]; exact h1, h2⟩
      have fa905 : Fa L861 κ862 ln863 R893 ow870 I865 a 9 4 0 := by obtain ⟨b, h1, h2⟩ := fa886; exact ⟨b, by rw [hR894, u2_b hax895]; exact h1, h2⟩
      have fa906 : Fa L861 κ862 ln863 R893 ow870 I865 a 10 6 0 := by obtain ⟨b, h1, h2⟩ := fa887; exact ⟨b, by rw [hR894, u2_b hax895]; exact h1, h2⟩
      have fa907 : Fa L861 κ862 ln863 R893 ow870 I865 a 11 2 0 := by obtain ⟨b, h1, h2⟩ := fa888; exact ⟨b, by rw [hR894, u2_b hax895]; exact h1, h2⟩
      have fa908 : Fa L861 κ862 ln863 R893 ow870 I865 a 13 13 40 := by obtain ⟨b, h1, h2⟩ := fa889; exact ⟨b, by rw [hR894, u2_b hax895]; exact h1, h2⟩
      have md909 := md876.ast hax895 x873 x874 hR894
      have dq9 : 2 ≤ i + 1 → R893 q694 0 ≠ R893 q694 1 := fun h2 => by
        obtain rfl : i = 1 := by omega
        obtain ⟨b9, c1, c2, c3⟩ := md_.2.2.2.2.2.2.2.2.2 0 (by omega)
        have e0 : R893 q694 0 = some b9 := by rw [hR894, u2_j (by decide)]; exact ((x871 q694 md_.2.2.1).2.2.2.2.2.1 0).trans c1
        have e1 : R893 q694 1 = some q850 := by rw [hR894]; exact u2_s
        rw [e0, e1]
        exact fun e => hq858.1 (by cases e; exact c2)
      refine g_iinc C dX11_init_193 (k := 0) (v := nI (i + 1)) rfl (nI_1 (i)) (by decide) (lo2 := [(1, .int (nI (i + 1))), (0, .ref a)]) rfl ?_
      refine g_goto C (tgt := 175) dX11_init_196 (by decide) ?_
      refine g_lo (is := [0, 1]) (lo2 := [(1, .int (nI (i + 1))), (0, .ref a)]) rfl ?_
      refine a_wide (k := 186 + (i + 1) * 19) (n := 6174 + (i + 1) * 302) (by omega) (by omega) ?_
      exact ih (i + 1) (by omega) L861 κ862 ln863 R893 I865 J866 ow870 hl891 hk892 z890 fa896 fa897 ofa897 fa898 fa899 fa900 fa901 fa902 fa903 fa904 fa905 fa906 fa907 fa908 md909 dq9 K868
  exact lp 2 0 (by omega) L763 κ764 ln765 R816 I833 J768 ow769 hl788 hk789 z836 fa837 fa838 ofa838 fa839 fa840 fa841 fa842 fa843 fa844 fa845 fa846 fa847 fa848 fa849 md835 (fun h => absurd h (by decide)) K771
