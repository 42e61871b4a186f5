theorem dX10_init_0 : decode cX10_init 0 = .ok (.aload_n 0, 1) := by decide +kernel
theorem dX10_init_1 : decode cX10_init 1 = .ok (.invokespecial 3, 3) := by decide +kernel
theorem dX10_init_4 : decode cX10_init 4 = .ok (.aload_n 0, 1) := by decide +kernel
theorem dX10_init_5 : decode cX10_init 5 = .ok (.sipush 940, 3) := by decide +kernel
theorem dX10_init_8 : decode cX10_init 8 = .ok (.newarray .byte, 2) := by decide +kernel
theorem dX10_init_10 : decode cX10_init 10 = .ok (.putfield 9, 3) := by decide +kernel
theorem dX10_init_13 : decode cX10_init 13 = .ok (.aload_n 0, 1) := by decide +kernel
theorem dX10_init_14 : decode cX10_init 14 = .ok (.bipush 28, 2) := by decide +kernel
theorem dX10_init_16 : decode cX10_init 16 = .ok (.newarray .long, 2) := by decide +kernel
theorem dX10_init_18 : decode cX10_init 18 = .ok (.putfield 15, 3) := by decide +kernel
theorem dX10_init_21 : decode cX10_init 21 = .ok (.aload_n 0, 1) := by decide +kernel
theorem dX10_init_22 : decode cX10_init 22 = .ok (.sipush 901, 3) := by decide +kernel
theorem dX10_init_25 : decode cX10_init 25 = .ok (.newarray .int, 2) := by decide +kernel
theorem dX10_init_27 : decode cX10_init 27 = .ok (.putfield 19, 3) := by decide +kernel
theorem dX10_init_30 : decode cX10_init 30 = .ok (.aload_n 0, 1) := by decide +kernel
theorem dX10_init_31 : decode cX10_init 31 = .ok (.sipush 901, 3) := by decide +kernel
theorem dX10_init_34 : decode cX10_init 34 = .ok (.newarray .int, 2) := by decide +kernel
theorem dX10_init_36 : decode cX10_init 36 = .ok (.putfield 23, 3) := by decide +kernel
theorem dX10_init_39 : decode cX10_init 39 = .ok (.aload_n 0, 1) := by decide +kernel
theorem dX10_init_40 : decode cX10_init 40 = .ok (.sipush 901, 3) := by decide +kernel
theorem dX10_init_43 : decode cX10_init 43 = .ok (.newarray .long, 2) := by decide +kernel
theorem dX10_init_45 : decode cX10_init 45 = .ok (.putfield 26, 3) := by decide +kernel
theorem dX10_init_48 : decode cX10_init 48 = .ok (.aload_n 0, 1) := by decide +kernel
theorem dX10_init_49 : decode cX10_init 49 = .ok (.iconst 0, 1) := by decide +kernel
theorem dX10_init_50 : decode cX10_init 50 = .ok (.putfield 29, 3) := by decide +kernel
theorem dX10_init_53 : decode cX10_init 53 = .ok (.aload_n 0, 1) := by decide +kernel
theorem dX10_init_54 : decode cX10_init 54 = .ok (.iconst 0, 1) := by decide +kernel
theorem dX10_init_55 : decode cX10_init 55 = .ok (.putfield 33, 3) := by decide +kernel
theorem dX10_init_58 : decode cX10_init 58 = .ok (.aload_n 0, 1) := by decide +kernel
theorem dX10_init_59 : decode cX10_init 59 = .ok (.iconst 0, 1) := by decide +kernel
theorem dX10_init_60 : decode cX10_init 60 = .ok (.putfield 36, 3) := by decide +kernel
theorem dX10_init_63 : decode cX10_init 63 = .ok (.aload_n 0, 1) := by decide +kernel
theorem dX10_init_64 : decode cX10_init 64 = .ok (.bipush 102, 2) := by decide +kernel
theorem dX10_init_66 : decode cX10_init 66 = .ok (.putfield 39, 3) := by decide +kernel
theorem dX10_init_69 : decode cX10_init 69 = .ok (.aload_n 0, 1) := by decide +kernel
theorem dX10_init_70 : decode cX10_init 70 = .ok (.iconst 0, 1) := by decide +kernel
theorem dX10_init_71 : decode cX10_init 71 = .ok (.putfield 42, 3) := by decide +kernel
theorem dX10_init_74 : decode cX10_init 74 = .ok (.aload_n 0, 1) := by decide +kernel
theorem dX10_init_75 : decode cX10_init 75 = .ok (.lconst 0, 1) := by decide +kernel
theorem dX10_init_76 : decode cX10_init 76 = .ok (.putfield 45, 3) := by decide +kernel
theorem dX10_init_79 : decode cX10_init 79 = .ok (.aload_n 0, 1) := by decide +kernel
theorem dX10_init_80 : decode cX10_init 80 = .ok (.iconst 0, 1) := by decide +kernel
theorem dX10_init_81 : decode cX10_init 81 = .ok (.putfield 49, 3) := by decide +kernel
theorem dX10_init_84 : decode cX10_init 84 = .ok (.aload_n 0, 1) := by decide +kernel
theorem dX10_init_85 : decode cX10_init 85 = .ok (.iconst 0, 1) := by decide +kernel
theorem dX10_init_86 : decode cX10_init 86 = .ok (.putfield 52, 3) := by decide +kernel
theorem dX10_init_89 : decode cX10_init 89 = .ok (.iconst 0, 1) := by decide +kernel
theorem dX10_init_90 : decode cX10_init 90 = .ok (.istore_n 1, 1) := by decide +kernel
theorem dX10_init_91 : decode cX10_init 91 = .ok (.lconst 0, 1) := by decide +kernel
theorem dX10_init_92 : decode cX10_init 92 = .ok (.lstore_n 2, 1) := by decide +kernel
theorem dX10_init_93 : decode cX10_init 93 = .ok (.iconst 0, 1) := by decide +kernel
theorem dX10_init_94 : decode cX10_init 94 = .ok (.istore 4, 2) := by decide +kernel
theorem dX10_init_96 : decode cX10_init 96 = .ok (.iload 4, 2) := by decide +kernel
theorem dX10_init_98 : decode cX10_init 98 = .ok (.ldc 55, 2) := by decide +kernel
theorem dX10_init_100 : decode cX10_init 100 = .ok (.invokevirtual 57, 3) := by decide +kernel
theorem dX10_init_103 : decode cX10_init 103 = .ok (.if_icmp .ge 54, 3) := by decide +kernel
theorem dX10_init_106 : decode cX10_init 106 = .ok (.iload_n 1, 1) := by decide +kernel
theorem dX10_init_107 : decode cX10_init 107 = .ok (.bipush 28, 2) := by decide +kernel
theorem dX10_init_109 : decode cX10_init 109 = .ok (.if_icmp .ge 48, 3) := by decide +kernel
theorem dX10_init_112 : decode cX10_init 112 = .ok (.ldc 55, 2) := by decide +kernel
theorem dX10_init_114 : decode cX10_init 114 = .ok (.iload 4, 2) := by decide +kernel
theorem dX10_init_116 : decode cX10_init 116 = .ok (.invokevirtual 62, 3) := by decide +kernel
theorem dX10_init_119 : decode cX10_init 119 = .ok (.bipush 32, 2) := by decide +kernel
theorem dX10_init_121 : decode cX10_init 121 = .ok (.if_icmp .ne 18, 3) := by decide +kernel
theorem dX10_init_124 : decode cX10_init 124 = .ok (.aload_n 0, 1) := by decide +kernel
theorem dX10_init_125 : decode cX10_init 125 = .ok (.getfield 15, 3) := by decide +kernel
theorem dX10_init_128 : decode cX10_init 128 = .ok (.iload_n 1, 1) := by decide +kernel
theorem dX10_init_129 : decode cX10_init 129 = .ok (.lload_n 2, 1) := by decide +kernel
theorem dX10_init_130 : decode cX10_init 130 = .ok (.lastore, 1) := by decide +kernel
theorem dX10_init_131 : decode cX10_init 131 = .ok (.iinc 1 1, 3) := by decide +kernel
theorem dX10_init_134 : decode cX10_init 134 = .ok (.lconst 0, 1) := by decide +kernel
theorem dX10_init_135 : decode cX10_init 135 = .ok (.lstore_n 2, 1) := by decide +kernel
theorem dX10_init_136 : decode cX10_init 136 = .ok (.goto 15, 3) := by decide +kernel
theorem dX10_init_139 : decode cX10_init 139 = .ok (.lload_n 2, 1) := by decide +kernel
theorem dX10_init_140 : decode cX10_init 140 = .ok (.ldc 55, 2) := by decide +kernel
theorem dX10_init_142 : decode cX10_init 142 = .ok (.iload 4, 2) := by decide +kernel
theorem dX10_init_144 : decode cX10_init 144 = .ok (.invokevirtual 62, 3) := by decide +kernel
theorem dX10_init_147 : decode cX10_init 147 = .ok (.invokestatic 66, 3) := by decide +kernel
theorem dX10_init_150 : decode cX10_init 150 = .ok (.lstore_n 2, 1) := by decide +kernel
theorem dX10_init_151 : decode cX10_init 151 = .ok (.iinc 4 1, 3) := by decide +kernel
theorem dX10_init_154 : decode cX10_init 154 = .ok (.goto (-58), 3) := by decide +kernel
theorem dX10_init_157 : decode cX10_init 157 = .ok (.return_, 1) := by decide +kernel
section GK
variable {p : Program} {l : Launch} {e : Env} {Rm : Room} {s : State} {m : MethodId} {args : Array Value} {below : List Frame} {meth : Method} {c : Code} {cells slots : Nat} {Q : State → Prop}
variable {cc : ByteArray} {pc nL : Nat} {own : String} {D : va_G} {cy : Nat → ClassId} {A : Nat → Prop} {H0 : Heap} {L : List Nat} {κ ln : Nat → Nat} {R : Nat → Nat → Option Nat} {I : Nat → Nat → Int32} {J : Nat → Nat → Int64} {lo lo2 : List (Nat × Value)} {st : List Value}
theorem gk_lor (C : CallFix p m c cc nL s args GT own) {x y v : Int64} (hd : decode cc pc = .ok (.lor, 1)) (hv : x ||| y = v) (kk : WG p l e Rm s m args below meth c nL cells slots Q D cy A H0 L κ ln R I J (pc + 1) lo (.long v :: st)) : WG p l e Rm s m args below meth c nL cells slots Q D cy A H0 L κ ln R I J pc lo (.long y :: .long x :: st) := fun H locs ls hP hS hl => lv_lor C.1 C.2.1 hd (hv ▸ kk H locs ls hP hS hl)
theorem gk_lshl (C : CallFix p m c cc nL s args GT own) {x v : Int64} {y : Int32} (hd : decode cc pc = .ok (.lshl, 1)) (hv : x <<< (y.toInt64 &&& 63) = v) (kk : WG p l e Rm s m args below meth c nL cells slots Q D cy A H0 L κ ln R I J (pc + 1) lo (.long v :: st)) : WG p l e Rm s m args below meth c nL cells slots Q D cy A H0 L κ ln R I J pc lo (.int y :: .long x :: st) := fun H locs ls hP hS hl => lv_lshl C.1 C.2.1 hd hv (kk H locs ls hP hS hl)
end GK
def tx_ : String := "person dish plate law dogs of spoils next child least eats served rises refuses accepts dies meal or and not dead refused clean has wants eaten hunger number "
/-- what Tape's constructor needs beside its pool: nest mates, its text -/
def Et_ (k v : Nat) (f : Nat → Int32) (L : List Nat) (sz : Nat) (U : State) : Prop := Nn_ U ∧ vk_R RX10 55 tx_ k U ∧ Es_ k v 158 f (AN_ L sz) U
theorem Et_blind {k v : Nat} {f : Nat → Int32} {L : List Nat} : ∀ sz (u U : State), u.vm = U.vm → u.heap = U.heap → Et_ k v f L sz u → Et_ k v f L sz U := fun sz u U hv hh h => ⟨h.1.same hv, h.2.1.same hv.symm, Es_.blind u U hv hh h.2.2⟩
set_option maxRecDepth 100000 in
set_option maxHeartbeats 4000000 in
theorem c_Tape_withLetter {l : Launch} {D : va_G} {cy : Nat → ClassId} {L : List Nat} {κ ln : Nat → Nat} {R : Nat → Nat → Option Nat} {I : Nat → Nat → Int32} {J : Nat → Nat → Int64} (x : Int64) (y : Int32) : CtL l yX10_withLetter cX10_withLetter 3 (some .long) { frames := 0, cells := 0, slots := 0, locals := 0 } D cy L κ ln R I J [.long x, .int y] (fun r I2 J2 => I = I2 ∧ J = J2 ∧ r = wlt x y) := by
  refine CtL.of (by decide +kernel) (Nat.le_of_ble_eq_true rfl) ?_
  intro p e s m below meth c B K
  have C := B.1
  refine g_lo (is := [0, 1]) (lo2 := [(0, .long x), (2, .int y)]) rfl ?_
  refine g_lload_n C 0 dX10_withLetter_0 rfl rfl ?_
  refine g_iconst C (v := 5) dX10_withLetter_1 (by decide) ?_
  refine gk_lshl C dX10_withLetter_2 rfl ?_
  refine g_iload_n C 1 dX10_withLetter_3 rfl rfl ?_
  refine g_bipush C (v := 97) dX10_withLetter_4 (by decide) ?_
  refine g_isub C dX10_withLetter_6 rfl ?_
  refine g_iconst C (v := 1) dX10_withLetter_7 (by decide) ?_
  refine g_iadd C dX10_withLetter_8 rfl ?_
  refine g_i2l C dX10_withLetter_9 rfl ?_
  refine gk_lor C dX10_withLetter_10 rfl ?_
  exact g_lret B K rfl ⟨rfl, rfl, rfl⟩ dX10_withLetter_11
def tb_ : List Int32 := [112, 101, 114, 115, 111, 110, 32, 100, 105, 115, 104, 32, 112, 108, 97, 116, 101, 32, 108, 97, 119, 32, 100, 111, 103, 115, 32, 111, 102, 32, 115, 112, 111, 105, 108, 115, 32, 110, 101, 120, 116, 32, 99, 104, 105, 108, 100, 32, 108, 101, 97, 115, 116, 32, 101, 97, 116, 115, 32, 115, 101, 114, 118, 101, 100, 32, 114, 105, 115, 101, 115, 32, 114, 101, 102, 117, 115, 101, 115, 32, 97, 99, 99, 101, 112, 116, 115, 32, 100, 105, 101, 115, 32, 109, 101, 97, 108, 32, 111, 114, 32, 97, 110, 100, 32, 110, 111, 116, 32, 100, 101, 97, 100, 32, 114, 101, 102, 117, 115, 101, 100, 32, 99, 108, 101, 97, 110, 32, 104, 97, 115, 32, 119, 97, 110, 116, 115, 32, 101, 97, 116, 101, 110, 32, 104, 117, 110, 103, 101, 114, 32, 110, 117, 109, 98, 101, 114, 32]
/-! the words as the constructor lays them: letter by letter -/
def chr_ (c : Int32) : Int32 := ((c &&& 255).toUInt32 % 65536).toInt32
def Ws : Nat → Nat × Int64 × (Nat → Int64)
  | 0 => (0, 0, fun _ => 0)
  | n + 1 => if chr_ (tb_.getD n 0) = 32 then ((Ws n).1 + 1, 0, up1 (Ws n).2.2 (Ws n).1 (Ws n).2.1) else ((Ws n).1, wlt (Ws n).2.1 (chr_ (tb_.getD n 0)), (Ws n).2.2)
theorem ws_lt : ∀ i : Fin 158, (Ws i.val).1 < 28 := by decide +kernel
theorem ws_fin : ∀ j : Fin 28, (Ws 158).2.2 j.val = wk j.val := by decide +kernel
set_option maxRecDepth 100000 in
set_option maxHeartbeats 4000000 in
theorem i_10 {l : Launch} {D : va_G} {cy : Nat → ClassId} {L : List Nat} {κ ln : Nat → Nat} {R : Nat → Nat → Option Nat} {I : Nat → Nat → Int32} {J : Nat → Nat → Int64} {ow : Nat → Nat × Nat} {k v : Nat} {f : Nat → Int32} {a : Nat} (ha : a ∈ L) (hk : κ a = 10) (hz : ∀ j, I a j = 0) (hf : ∀ i : Nat, f i = tb_.getD i 0) : CtN l yX10_init cX10_init 5 { frames := 4, cells := 5, slots := 3671, locals := 300 } 5 3671 D cy L κ ln R I J (Et_ k v f L) [.ref a] (Pi_ a L κ ln R ow I J) := by
  refine CtN.of (by decide +kernel) (Nat.le_of_ble_eq_true rfl) ?_
  intro p e s m below meth c B K hN
  have C := B.1
  have hin : meth.name = "<init>" := B.2.2.2
  have hA : ∀ q, s.heap.size ≤ q → AN_ L s.heap.size q := fun q h => Or.inr h
  refine g_lo (is := [0]) (lo2 := [(0, .ref a)]) rfl ?_
  obtain ⟨hN, hR9, hX⟩ := hN
  refine g_aload_n C 0 dX10_init_0 rfl rfl ?_
  refine a_obj C oi_10_3 (Nat.le_of_ble_eq_true rfl) (Nat.le_of_ble_eq_true rfl) dX10_init_1 ?_
  refine g_aload_n C 0 dX10_init_4 rfl rfl ?_
  refine g_sipush C (v := 940) dX10_init_5 (by decide) ?_
  refine a_newB (ow := ow) C K hA (a, 0) 940 (by decide) (by decide) (by decide) ar_byte ⟨Nat.le_of_ble_eq_true rfl, Nat.le_of_ble_eq_true rfl⟩ dX10_init_8 (fun q1 L2 κ3 ln4 R5 I6 J7 ow8 hq9 K10 => ?_)
  have hE11 := hq9.2.2.2.2.2.2.2.2
  have md12 := (Md.rf : Md a L κ ln R ow I J L κ ln R ow I J).ex hE11 (hq9.gd (by decide))
  have z13 : ∀ j, I6 a j = 0 := fun j => ((hE11 a ha).2.2.2.2.1 j).trans (hz j)
  have hl14 := (hE11 a ha).1
  have hk15 := ((hE11 a ha).2.1).trans hk
  refine a_putR C K10 hl14 hk15 f_10_9 p_10_0 hin rfl rfl rfl dX10_init_10 (fun R16 hR17 => ?_)
  have md18 := md12.putR ha hR17
  have fa19 : Fa L2 κ3 ln4 R16 ow8 I6 a 0 13 940 := Fa.new hR17 hq9.2.1 hq9.2.2.2.1 (fun _ => ⟨hq9.2.2.2.2.1, hq9.2.2.2.2.2.1⟩)
  refine g_aload_n C 0 dX10_init_13 rfl rfl ?_
  refine g_bipush C (v := 28) dX10_init_14 (by decide) ?_
  refine a_newJ (ow := ow8) C K10 hA (a, 1) 28 (by decide) (by decide) (by decide) ar_long ⟨Nat.le_of_ble_eq_true rfl, Nat.le_of_ble_eq_true rfl⟩ dX10_init_16 (fun q20 L21 κ22 ln23 R24 I25 J26 ow27 hq28 K29 => ?_)
  have hE30 := hq28.2.2.2.2.2.2.2.2
  have md31 := md18.ex hE30 (hq28.gd (by decide))
  have fa32 := fa19.ex hl14 hE30
  have z33 : ∀ j, I25 a j = 0 := fun j => ((hE30 a hl14).2.2.2.2.1 j).trans (z13 j)
  have hl34 := (hE30 a hl14).1
  have hk35 := ((hE30 a hl14).2.1).trans hk15
  have hl36 := (hE30 q1 hq9.2.1).1
  have hk37 := ((hE30 q1 hq9.2.1).2.1).trans hq9.2.2.2.1
  refine a_putR C K29 hl34 hk35 f_10_15 p_10_1 hin rfl rfl rfl dX10_init_18 (fun R38 hR39 => ?_)
  have md40 := md31.putR ha hR39
  have w0a : ∀ j, J26 q20 j = 0 := fun j => (hq28.2.2.2.2.2.2.2.1 j).2
  have r0a : R38 a 1 = some q20 := by rw [hR39]; exact u2_s
  have fa41 := fa32.put hR39 (show 0 ≠ 1 by decide)
  have fa42 : Fa L21 κ22 ln23 R38 ow27 I25 a 1 15 28 := Fa.new hR39 hq28.2.1 hq28.2.2.2.1 (fun _ => ⟨hq28.2.2.2.2.1, hq28.2.2.2.2.2.1⟩)
  refine g_aload_n C 0 dX10_init_21 rfl rfl ?_
  refine g_sipush C (v := 901) dX10_init_22 (by decide) ?_
  refine a_newI (ow := ow27) C K29 hA (a, 2) 901 (by decide) (by decide) (by decide) ar_int ⟨Nat.le_of_ble_eq_true rfl, Nat.le_of_ble_eq_true rfl⟩ dX10_init_25 (fun q43 L44 κ45 ln46 R47 I48 J49 ow50 hq51 K52 => ?_)
  have hE53 := hq51.2.2.2.2.2.2.2.2
  have md54 := md40.ex hE53 (hq51.gd (by decide))
  have fa55 := fa41.ex hl34 hE53
  have fa56 := fa42.ex hl34 hE53
  have z57 : ∀ j, I48 a j = 0 := fun j => ((hE53 a hl34).2.2.2.2.1 j).trans (z33 j)
  have hl58 := (hE53 a hl34).1
  have hk59 := ((hE53 a hl34).2.1).trans hk35
  have hl60 := (hE53 q1 hl36).1
  have hk61 := ((hE53 q1 hl36).2.1).trans hk37
  have hl62 := (hE53 q20 hq28.2.1).1
  have hk63 := ((hE53 q20 hq28.2.1).2.1).trans hq28.2.2.2.1
  refine a_putR C K52 hl58 hk59 f_10_19 p_10_2 hin rfl rfl rfl dX10_init_27 (fun R64 hR65 => ?_)
  have md66 := md54.putR ha hR65
  have w0b : ∀ j, J49 q20 j = 0 := fun j => ((hE53 q20 hq28.2.1).2.2.2.2.2.2 j).trans (w0a j)
  have r0b : R64 a 1 = some q20 := by rw [hR65, u2_j (by decide)]; exact ((hE53 a hl34).2.2.2.2.2.1 1).trans r0a
  have fa67 := fa55.put hR65 (show 0 ≠ 2 by decide)
  have fa68 := fa56.put hR65 (show 1 ≠ 2 by decide)
  have fa69 : Fa L44 κ45 ln46 R64 ow50 I48 a 2 14 901 := Fa.new hR65 hq51.2.1 hq51.2.2.2.1 (fun _ => ⟨hq51.2.2.2.2.1, hq51.2.2.2.2.2.1⟩)
  refine g_aload_n C 0 dX10_init_30 rfl rfl ?_
  refine g_sipush C (v := 901) dX10_init_31 (by decide) ?_
  refine a_newI (ow := ow50) C K52 hA (a, 3) 901 (by decide) (by decide) (by decide) ar_int ⟨Nat.le_of_ble_eq_true rfl, Nat.le_of_ble_eq_true rfl⟩ dX10_init_34 (fun q70 L71 κ72 ln73 R74 I75 J76 ow77 hq78 K79 => ?_)
  have hE80 := hq78.2.2.2.2.2.2.2.2
  have md81 := md66.ex hE80 (hq78.gd (by decide))
  have fa82 := fa67.ex hl58 hE80
  have fa83 := fa68.ex hl58 hE80
  have fa84 := fa69.ex hl58 hE80
  have z85 : ∀ j, I75 a j = 0 := fun j => ((hE80 a hl58).2.2.2.2.1 j).trans (z57 j)
  have hl86 := (hE80 a hl58).1
  have hk87 := ((hE80 a hl58).2.1).trans hk59
  have hl88 := (hE80 q1 hl60).1
  have hk89 := ((hE80 q1 hl60).2.1).trans hk61
  have hl90 := (hE80 q20 hl62).1
  have hk91 := ((hE80 q20 hl62).2.1).trans hk63
  have hl92 := (hE80 q43 hq51.2.1).1
  have hk93 := ((hE80 q43 hq51.2.1).2.1).trans hq51.2.2.2.1
  refine a_putR C K79 hl86 hk87 f_10_23 p_10_3 hin rfl rfl rfl dX10_init_36 (fun R94 hR95 => ?_)
  have md96 := md81.putR ha hR95
  have w0c : ∀ j, J76 q20 j = 0 := fun j => ((hE80 q20 hl62).2.2.2.2.2.2 j).trans (w0b j)
  have r0c : R94 a 1 = some q20 := by rw [hR95, u2_j (by decide)]; exact ((hE80 a hl58).2.2.2.2.2.1 1).trans r0b
  have fa97 := fa82.put hR95 (show 0 ≠ 3 by decide)
  have fa98 := fa83.put hR95 (show 1 ≠ 3 by decide)
  have fa99 := fa84.put hR95 (show 2 ≠ 3 by decide)
  have fa100 : Fa L71 κ72 ln73 R94 ow77 I75 a 3 14 901 := Fa.new hR95 hq78.2.1 hq78.2.2.2.1 (fun _ => ⟨hq78.2.2.2.2.1, hq78.2.2.2.2.2.1⟩)
  refine g_aload_n C 0 dX10_init_39 rfl rfl ?_
  refine g_sipush C (v := 901) dX10_init_40 (by decide) ?_
  refine a_newJ (ow := ow77) C K79 hA (a, 4) 901 (by decide) (by decide) (by decide) ar_long ⟨Nat.le_of_ble_eq_true rfl, Nat.le_of_ble_eq_true rfl⟩ dX10_init_43 (fun q101 L102 κ103 ln104 R105 I106 J107 ow108 hq109 K110 => ?_)
  have hE111 := hq109.2.2.2.2.2.2.2.2
  have md112 := md96.ex hE111 (hq109.gd (by decide))
  have fa113 := fa97.ex hl86 hE111
  have fa114 := fa98.ex hl86 hE111
  have fa115 := fa99.ex hl86 hE111
  have fa116 := fa100.ex hl86 hE111
  have z117 : ∀ j, I106 a j = 0 := fun j => ((hE111 a hl86).2.2.2.2.1 j).trans (z85 j)
  have hl118 := (hE111 a hl86).1
  have hk119 := ((hE111 a hl86).2.1).trans hk87
  have hl120 := (hE111 q1 hl88).1
  have hk121 := ((hE111 q1 hl88).2.1).trans hk89
  have hl122 := (hE111 q20 hl90).1
  have hk123 := ((hE111 q20 hl90).2.1).trans hk91
  have hl124 := (hE111 q43 hl92).1
  have hk125 := ((hE111 q43 hl92).2.1).trans hk93
  have hl126 := (hE111 q70 hq78.2.1).1
  have hk127 := ((hE111 q70 hq78.2.1).2.1).trans hq78.2.2.2.1
  refine a_putR C K110 hl118 hk119 f_10_26 p_10_4 hin rfl rfl rfl dX10_init_45 (fun R128 hR129 => ?_)
  have md130 := md112.putR ha hR129
  have w0d : ∀ j, J107 q20 j = 0 := fun j => ((hE111 q20 hl90).2.2.2.2.2.2 j).trans (w0c j)
  have r0d : R128 a 1 = some q20 := by rw [hR129, u2_j (by decide)]; exact ((hE111 a hl86).2.2.2.2.2.1 1).trans r0c
  have fa131 := fa113.put hR129 (show 0 ≠ 4 by decide)
  have fa132 := fa114.put hR129 (show 1 ≠ 4 by decide)
  have fa133 := fa115.put hR129 (show 2 ≠ 4 by decide)
  have fa134 := fa116.put hR129 (show 3 ≠ 4 by decide)
  have fa135 : Fa L102 κ103 ln104 R128 ow108 I106 a 4 15 901 := Fa.new hR129 hq109.2.1 hq109.2.2.2.1 (fun _ => ⟨hq109.2.2.2.2.1, hq109.2.2.2.2.2.1⟩)
  refine g_aload_n C 0 dX10_init_48 rfl rfl ?_
  refine g_iconst C (v := 0) dX10_init_49 (by decide) ?_
  refine h_putI C K110 hl118 hk119 f_10_29 p_10_5 dX10_init_50 (fun I136 hI137 => ?_)
  have md138 := md130.putI ha hI137
  have z139 : ∀ j, I136 a j = 0 := fun j => by rw [hI137]; by_cases h : j = 5 <;> simp [u2_, h, z117]
  have fa140 := fa131.putI (I3 := I136)
  have fa141 := fa132.putI (I3 := I136)
  have fa142 := fa133.putI (I3 := I136)
  have fa143 := fa134.putI (I3 := I136)
  have fa144 := fa135.putI (I3 := I136)
  refine g_aload_n C 0 dX10_init_53 rfl rfl ?_
  refine g_iconst C (v := 0) dX10_init_54 (by decide) ?_
  refine h_putI C K110 hl118 hk119 f_10_33 p_10_6 dX10_init_55 (fun I145 hI146 => ?_)
  have md147 := md138.putI ha hI146
  have z148 : ∀ j, I145 a j = 0 := fun j => by rw [hI146]; by_cases h : j = 6 <;> simp [u2_, h, z139]
  have fa149 := fa140.putI (I3 := I145)
  have fa150 := fa141.putI (I3 := I145)
  have fa151 := fa142.putI (I3 := I145)
  have fa152 := fa143.putI (I3 := I145)
  have fa153 := fa144.putI (I3 := I145)
  refine g_aload_n C 0 dX10_init_58 rfl rfl ?_
  refine g_iconst C (v := 0) dX10_init_59 (by decide) ?_
  refine h_putI C K110 hl118 hk119 f_10_36 p_10_7 dX10_init_60 (fun I154 hI155 => ?_)
  have md156 := md147.putI ha hI155
  have z157 : ∀ j, I154 a j = 0 := fun j => by rw [hI155]; by_cases h : j = 7 <;> simp [u2_, h, z148]
  have fa158 := fa149.putI (I3 := I154)
  have fa159 := fa150.putI (I3 := I154)
  have fa160 := fa151.putI (I3 := I154)
  have fa161 := fa152.putI (I3 := I154)
  have fa162 := fa153.putI (I3 := I154)
  refine g_aload_n C 0 dX10_init_63 rfl rfl ?_
  refine g_bipush C (v := 102) dX10_init_64 (by decide) ?_
  refine h_putI C K110 hl118 hk119 f_10_39 p_10_8 dX10_init_66 (fun I163 hI164 => ?_)
  have md165 := md156.putI ha hI164
  have z166 : ∀ j, I163 a j = (if j = 8 then 102 else 0) := fun j => by rw [hI164]; by_cases h : j = 8 <;> simp [u2_, h, z157]
  have fa167 := fa158.putI (I3 := I163)
  have fa168 := fa159.putI (I3 := I163)
  have fa169 := fa160.putI (I3 := I163)
  have fa170 := fa161.putI (I3 := I163)
  have fa171 := fa162.putI (I3 := I163)
  refine g_aload_n C 0 dX10_init_69 rfl rfl ?_
  refine g_iconst C (v := 0) dX10_init_70 (by decide) ?_
  refine h_putI C K110 hl118 hk119 f_10_42 p_10_9 dX10_init_71 (fun I172 hI173 => ?_)
  have md174 := md165.putI ha hI173
  have z175 : ∀ j, I172 a j = (if j = 8 then 102 else 0) := fun j => by rw [hI173]; by_cases h : j = 9 <;> simp [u2_, h, z166]
  have fa176 := fa167.putI (I3 := I172)
  have fa177 := fa168.putI (I3 := I172)
  have fa178 := fa169.putI (I3 := I172)
  have fa179 := fa170.putI (I3 := I172)
  have fa180 := fa171.putI (I3 := I172)
  refine g_aload_n C 0 dX10_init_74 rfl rfl ?_
  refine g_lconst C (v := 0) dX10_init_75 (by decide) ?_
  refine h_putJ C K110 hl118 hk119 f_10_45 p_10_10 dX10_init_76 (fun J181 hJ182 => ?_)
  have nqa : q20 ≠ a := fun e => by rw [e, hk119] at hk123; exact absurd hk123 (by decide)
  have w0e : ∀ j, J181 q20 j = 0 := fun j => by rw [hJ182, u2_b nqa]; exact w0d j
  have md174 := md174.putJ (Or.inl rfl) (fun b g hn hk w hR e => by
    obtain ⟨w', c1, c2, c3, -⟩ := g.1.1 1 (15, 28) (by rw [hk]; rfl) (by decide)
    rw [hR] at c1; cases c1
    rw [e, hk119] at c3
    exact absurd c3 (by decide)) hJ182
  refine g_aload_n C 0 dX10_init_79 rfl rfl ?_
  refine g_iconst C (v := 0) dX10_init_80 (by decide) ?_
  refine h_putI C K110 hl118 hk119 f_10_49 p_10_11 dX10_init_81 (fun I183 hI184 => ?_)
  have md185 := md174.putI ha hI184
  have z186 : ∀ j, I183 a j = (if j = 8 then 102 else 0) := fun j => by rw [hI184]; by_cases h : j = 11 <;> simp [u2_, h, z175]
  have fa187 := fa176.putI (I3 := I183)
  have fa188 := fa177.putI (I3 := I183)
  have fa189 := fa178.putI (I3 := I183)
  have fa190 := fa179.putI (I3 := I183)
  have fa191 := fa180.putI (I3 := I183)
  refine g_aload_n C 0 dX10_init_84 rfl rfl ?_
  refine g_iconst C (v := 0) dX10_init_85 (by decide) ?_
  refine h_putI C K110 hl118 hk119 f_10_52 p_10_12 dX10_init_86 (fun I192 hI193 => ?_)
  have md194 := md185.putI ha hI193
  have z195 : ∀ j, I192 a j = (if j = 8 then 102 else 0) := fun j => by rw [hI193]; by_cases h : j = 12 <;> simp [u2_, h, z186]
  have fa196 := fa187.putI (I3 := I192)
  have fa197 := fa188.putI (I3 := I192)
  have fa198 := fa189.putI (I3 := I192)
  have fa199 := fa190.putI (I3 := I192)
  have fa200 := fa191.putI (I3 := I192)
  obtain ⟨wd, hwd, hwL, hwk, hwn0⟩ := id fa197
  have ewd : wd = q20 := by rw [r0d] at hwd; exact (Option.some.inj hwd).symm
  subst ewd
  have hwn := (hwn0 (by decide)).1
  have hwo := (hwn0 (by decide)).2
  have hwL0 : wd ∉ L := fun h => hq28.1 (by
    obtain ⟨e1, -⟩ := hE11 wd h
    exact e1)
  refine a_wide (k := 5) (n := 3671) (Nat.le_of_ble_eq_true rfl) (Nat.le_of_ble_eq_true rfl) ?_
  have fin : ∀ (J9 : Nat → Nat → Int64) (lo9 : List (Nat × Value)), Md a L κ ln R ow I J L102 κ103 ln104 R128 ow108 I192 J9 → (∀ j : Nat, j < 28 → J9 wd j = wk j) → WG p l e { frames := 4, cells := 5, slots := 3671, locals := 300 } s m ([.ref a] : List Value).toArray below meth c 5 5 3671 (MQ below (Qn_ D cy L s.heap.size (Pi_ a L κ ln R ow I J)) ([.ref a] : List Value).toArray s 5 3671 (AN_ L s.heap.size)) D cy (AN_ L s.heap.size) s.heap L102 κ103 ln104 R128 I192 J9 157 lo9 [] := by
    intro J9 lo9 md9 hw9
    refine a_wide (k := 5) (n := 3671) (Nat.le_of_ble_eq_true rfl) (Nat.le_of_ble_eq_true rfl) ?_
    refine a_vret B K110 ⟨ow108, md9, ⟨fun k q hq h9 => ?_, fun h => absurd (hk119.symm.trans h) (by decide), fun h => absurd (hk119.symm.trans h) (by decide)⟩, fun j => ?_, fun _ w hR j hj => by rw [hwd] at hR; cases hR; exact hw9 j hj, fun k2 h2 => absurd h2 (by rw [hk119]; unfold own_; omega)⟩ dX10_init_157
    · rw [hk119] at hq
      match k, hq with
      | 0, hq => obtain rfl := Option.some.inj (show some (13, 940) = some q from hq); exact fa196
      | 1, hq => obtain rfl := Option.some.inj (show some (15, 28) = some q from hq); exact fa197
      | 2, hq => obtain rfl := Option.some.inj (show some (14, 901) = some q from hq); exact fa198
      | 3, hq => obtain rfl := Option.some.inj (show some (14, 901) = some q from hq); exact fa199
      | 4, hq => obtain rfl := Option.some.inj (show some (15, 901) = some q from hq); exact fa200
      | k + 5, hq => exact absurd hq (by simp [rt_])
    · rw [z195 j, hk119]; by_cases h8 : j = 8 <;> simp_all [fv_]
  have lp : ∀ (n i : Nat), i + n = 158 → ∀ (J9 : Nat → Nat → Int64), Md a L κ ln R ow I J L102 κ103 ln104 R128 ow108 I192 J9 → (∀ jj : Nat, J9 wd jj = (Ws i).2.2 jj) → WG p l e { frames := 4, cells := 5, slots := 3671, locals := 300 } s m ([.ref a] : List Value).toArray below meth c 5 5 3671 (MQ below (Qn_ D cy L s.heap.size (Pi_ a L κ ln R ow I J)) ([.ref a] : List Value).toArray s 5 3671 (AN_ L s.heap.size)) D cy (AN_ L s.heap.size) s.heap L102 κ103 ln104 R128 I192 J9 96 [(4, .int (nI i)), (2, .long (Ws i).2.1), (1, .int (nI (Ws i).1)), (0, .ref a)] [] := by
    intro n
    induction n with
    | zero =>
      intro i hi J9 md9 hw9
      refine g_iload C 0 dX10_init_96 rfl ?_
      refine e_ldcS C hR9 dX10_init_98 ?_
      refine e_callVI C K110 (j_length (k := k) (v := v) (N := 158) (f := f) (by decide)) Es_.blind hX.call hX.recv ev_length rfl ⟨rfl, rfl⟩ ⟨Nat.le_of_ble_eq_true rfl, Nat.le_of_ble_eq_true rfl⟩ (Nat.le_of_ble_eq_true rfl) ⟨Nat.le_of_ble_eq_true rfl, Nat.le_of_ble_eq_true rfl⟩ dX10_init_100 rfl (st := [.int (nI i)]) (fun r hr => ?_)
      subst hr
      refine t_icmp_ge C (tgt := 157) (lt_ge (n := i) (k := 158) (by omega) (by omega)) dX10_init_103 (by decide) ?_
      have e158 : i = 158 := by omega
      subst e158
      exact fin _ _ md9 (fun j hj => (hw9 j).trans (ws_fin ⟨j, hj⟩))
    | succ n ih =>
      intro i hi J9 md9 hw9
      refine g_iload C 0 dX10_init_96 rfl ?_
      refine e_ldcS C hR9 dX10_init_98 ?_
      refine e_callVI C K110 (j_length (k := k) (v := v) (N := 158) (f := f) (by decide)) Es_.blind hX.call hX.recv ev_length rfl ⟨rfl, rfl⟩ ⟨Nat.le_of_ble_eq_true rfl, Nat.le_of_ble_eq_true rfl⟩ (Nat.le_of_ble_eq_true rfl) ⟨Nat.le_of_ble_eq_true rfl, Nat.le_of_ble_eq_true rfl⟩ dX10_init_100 rfl (st := [.int (nI i)]) (fun r hr => ?_)
      subst hr
      refine n_icmp_ge C (tgt := 157) (ln_ge (n := i) (k := 158) (by omega) (by omega)) dX10_init_103 (by decide) ?_
      have hj9 : (Ws i).1 < 28 := ws_lt ⟨i, by omega⟩
      have hjl : (Ws i).1 ≤ 28 := by omega
      have wsn : Ws (i + 1) = if chr_ (tb_.getD i 0) = 32 then ((Ws i).1 + 1, 0, up1 (Ws i).2.2 (Ws i).1 (Ws i).2.1) else ((Ws i).1, wlt (Ws i).2.1 (chr_ (tb_.getD i 0)), (Ws i).2.2) := rfl
      refine g_iload_n C 2 dX10_init_106 rfl rfl ?_
      refine g_bipush C (v := 28) dX10_init_107 (by decide) ?_
      refine g_icmp_ge C (tgt := 157) dX10_init_109 (by decide) (fun hj8 => absurd hj8 (ln_ge (n := (Ws i).1) (k := 28) hj9 (by omega))) (fun hj8 => ?_)
      refine e_ldcS C hR9 dX10_init_112 ?_
      refine g_iload C 0 dX10_init_114 rfl ?_
      refine e_callVI C K110 (j_charAt (k := k) (v := v) (N := 158) (f := f) i (by omega) (by decide)) Es_.blind hX.call hX.recv ev_charAt rfl ⟨rfl, rfl⟩ ⟨Nat.le_of_ble_eq_true rfl, Nat.le_of_ble_eq_true rfl⟩ (Nat.le_of_ble_eq_true rfl) ⟨Nat.le_of_ble_eq_true rfl, Nat.le_of_ble_eq_true rfl⟩ dX10_init_116 rfl (st := []) (fun r hr => ?_)
      refine g_bipush C (v := 32) dX10_init_119 (by decide) ?_
      refine g_icmp_ne C (tgt := 139) dX10_init_121 (by decide) (fun hc => ?_) (fun hc => ?_)
      · rw [hr.2, hf i] at hc
        have hc : ¬ chr_ (tb_.getD i 0) = 32 := hc
        rw [if_neg hc] at wsn
        refine g_lload_n C 1 dX10_init_139 rfl rfl ?_
        refine e_ldcS C hR9 dX10_init_140 ?_
        refine g_iload C 0 dX10_init_142 rfl ?_
        refine e_callVI C K110 (j_charAt (k := k) (v := v) (N := 158) (f := f) i (by omega) (by decide)) Es_.blind hX.call hX.recv ev_charAt rfl ⟨rfl, rfl⟩ ⟨Nat.le_of_ble_eq_true rfl, Nat.le_of_ble_eq_true rfl⟩ (Nat.le_of_ble_eq_true rfl) ⟨Nat.le_of_ble_eq_true rfl, Nat.le_of_ble_eq_true rfl⟩ dX10_init_144 rfl (st := [.long (Ws i).2.1]) (fun r2 hr2 => ?_)
        refine g_callSL C K110 (c_Tape_withLetter (Ws i).2.1 r2) s_10_66 rfl ⟨rfl, rfl⟩ ⟨Nat.le_of_ble_eq_true rfl, Nat.le_of_ble_eq_true rfl⟩ (Nat.le_of_ble_eq_true rfl) ⟨Nat.le_of_ble_eq_true rfl, Nat.le_of_ble_eq_true rfl⟩ dX10_init_147 rfl (st := []) (fun r3 I3 J3 h3 => ?_)
        obtain ⟨rfl, rfl, hr3⟩ := h3
        rw [hr2.2, hf i] at hr3
        have e1 : (Ws (i + 1)).1 = (Ws i).1 := by rw [wsn]
        have e2 : (Ws (i + 1)).2.1 = r3 := by rw [wsn]; exact hr3.symm
        have e3 : (Ws (i + 1)).2.2 = (Ws i).2.2 := by rw [wsn]
        refine g_lstore_n C dX10_init_150 rfl (by decide) (lo2 := [(2, .long r3), (4, .int (nI i)), (1, .int (nI (Ws i).1)), (0, .ref a)]) rfl ?_
        refine g_iinc C dX10_init_151 (k := 1) (v := nI (i + 1)) rfl (nI_1 i) (by decide) (lo2 := [(4, .int (nI (i + 1))), (2, .long r3), (1, .int (nI (Ws i).1)), (0, .ref a)]) rfl ?_
        refine g_goto C (tgt := 96) dX10_init_154 (by decide) ?_
        have q := ih (i + 1) (by omega) J9 md9 (by rw [e3]; exact hw9)
        rw [e1, e2] at q
        exact q
      · rw [hr.2, hf i] at hc
        have hc : chr_ (tb_.getD i 0) = 32 := hc
        rw [if_pos hc] at wsn
        have e1 : (Ws (i + 1)).1 = (Ws i).1 + 1 := by rw [wsn]
        have e2 : (Ws (i + 1)).2.1 = 0 := by rw [wsn]
        have e3 : (Ws (i + 1)).2.2 = up1 (Ws i).2.2 (Ws i).1 (Ws i).2.1 := by rw [wsn]
        refine g_aload_n C 3 dX10_init_124 rfl rfl ?_
        refine g_getR C K110 hl118 hk119 f_10_15 hwd dX10_init_125 ?_
        refine g_iload_n C 2 dX10_init_128 rfl rfl ?_
        refine g_lload_n C 1 dX10_init_129 rfl rfl ?_
        refine h_last C K110 hwL hwk (Ws i).1 (nI_clamp (by omega)) (nI_pos (by omega)) (by rw [hwn]; exact hj9) dX10_init_130 (fun J8 hJ8 => ?_)
        refine g_iinc C dX10_init_131 (k := 2) (v := nI ((Ws i).1 + 1)) rfl (nI_1 (Ws i).1) (by decide) (lo2 := [(1, .int (nI ((Ws i).1 + 1))), (4, .int (nI i)), (2, .long (Ws i).2.1), (0, .ref a)]) rfl ?_
        refine g_lconst C (v := 0) dX10_init_134 (by decide) ?_
        refine g_lstore_n C dX10_init_135 rfl (by decide) (lo2 := [(2, .long 0), (1, .int (nI ((Ws i).1 + 1))), (4, .int (nI i)), (0, .ref a)]) rfl ?_
        refine g_goto C (tgt := 151) dX10_init_136 (by decide) ?_
        refine g_iinc C dX10_init_151 (k := 2) (v := nI (i + 1)) rfl (nI_1 i) (by decide) (lo2 := [(4, .int (nI (i + 1))), (2, .long 0), (1, .int (nI ((Ws i).1 + 1))), (0, .ref a)]) rfl ?_
        refine g_goto C (tgt := 96) dX10_init_154 (by decide) ?_
        have md8 := md9.putJ (Or.inr hwL0) (fun b g hn hk w hR e => by
          obtain ⟨w', c1, c2, c3, c4⟩ := g.1.1 1 (15, 28) (by rw [hk]; rfl) (by decide)
          rw [hR] at c1; cases c1
          have c5 := (c4 (by decide)).2
          rw [e, hwo] at c5
          exact hn ((Prod.mk.inj c5).1 ▸ ha)) hJ8
        have q := ih (i + 1) (by omega) J8 md8 (fun jj => by
          rw [e3, hJ8]
          by_cases z : jj = (Ws i).1
          · rw [z, u2_s, up1_s]
          · rw [u2_j z, up1_j z]; exact hw9 jj)
        rw [e1, e2] at q
        exact q
  refine g_iconst C (v := 0) dX10_init_89 (by decide) ?_
  refine g_istore_n C dX10_init_90 rfl (by decide) (lo2 := [(1, .int 0), (0, .ref a)]) rfl ?_
  refine g_lconst C (v := 0) dX10_init_91 (by decide) ?_
  refine g_lstore_n C dX10_init_92 rfl (by decide) (lo2 := [(2, .long 0), (1, .int 0), (0, .ref a)]) rfl ?_
  refine g_iconst C (v := 0) dX10_init_93 (by decide) ?_
  refine g_istore C dX10_init_94 (by decide) (lo2 := [(4, .int 0), (2, .long 0), (1, .int 0), (0, .ref a)]) rfl ?_
  exact lp 158 0 (by omega) _ md194 w0e
