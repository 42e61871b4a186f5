theorem dJ0_charAt_5068e_0 : decode cJ0_charAt_5068e 0 = .ok (.aload_n 0, 1) := by decide +kernel
theorem dJ0_charAt_5068e_1 : decode cJ0_charAt_5068e 1 = .ok (.invokevirtual 492, 3) := by decide +kernel
theorem dJ0_charAt_5068e_4 : decode cJ0_charAt_5068e 4 = .ok (.ifCond .eq 12, 3) := by decide +kernel
theorem dJ0_charAt_5068e_7 : decode cJ0_charAt_5068e 7 = .ok (.aload_n 0, 1) := by decide +kernel
theorem dJ0_charAt_5068e_8 : decode cJ0_charAt_5068e 8 = .ok (.getfield 9, 3) := by decide +kernel
theorem dJ0_charAt_5068e_11 : decode cJ0_charAt_5068e 11 = .ok (.iload_n 1, 1) := by decide +kernel
theorem dJ0_charAt_5068e_12 : decode cJ0_charAt_5068e 12 = .ok (.invokestatic 495, 3) := by decide +kernel
theorem dJ0_charAt_5068e_15 : decode cJ0_charAt_5068e 15 = .ok (.ireturn, 1) := by decide +kernel
theorem dJ0_checkIndex_df160_0 : decode cJ0_checkIndex_df160 0 = .ok (.iload_n 0, 1) := by decide +kernel
theorem dJ0_checkIndex_df160_1 : decode cJ0_checkIndex_df160 1 = .ok (.iload_n 1, 1) := by decide +kernel
theorem dJ0_checkIndex_df160_2 : decode cJ0_checkIndex_df160 2 = .ok (.getstatic 1053, 3) := by decide +kernel
theorem dJ0_checkIndex_df160_5 : decode cJ0_checkIndex_df160 5 = .ok (.invokestatic 1059, 3) := by decide +kernel
theorem dJ0_checkIndex_df160_8 : decode cJ0_checkIndex_df160 8 = .ok (.pop, 1) := by decide +kernel
theorem dJ0_checkIndex_df160_9 : decode cJ0_checkIndex_df160 9 = .ok (.return_, 1) := by decide +kernel
theorem dJ0_coder_7d493_0 : decode cJ0_coder_7d493 0 = .ok (.getstatic 38, 3) := by decide +kernel
theorem dJ0_coder_7d493_3 : decode cJ0_coder_7d493 3 = .ok (.ifCond .eq 10, 3) := by decide +kernel
theorem dJ0_coder_7d493_6 : decode cJ0_coder_7d493 6 = .ok (.aload_n 0, 1) := by decide +kernel
theorem dJ0_coder_7d493_7 : decode cJ0_coder_7d493 7 = .ok (.getfield 15, 3) := by decide +kernel
theorem dJ0_coder_7d493_10 : decode cJ0_coder_7d493 10 = .ok (.goto 4, 3) := by decide +kernel
theorem dJ0_coder_7d493_14 : decode cJ0_coder_7d493 14 = .ok (.ireturn, 1) := by decide +kernel
theorem dJ0_isLatin1_aae02_0 : decode cJ0_isLatin1_aae02 0 = .ok (.getstatic 38, 3) := by decide +kernel
theorem dJ0_isLatin1_aae02_3 : decode cJ0_isLatin1_aae02 3 = .ok (.ifCond .eq 14, 3) := by decide +kernel
theorem dJ0_isLatin1_aae02_6 : decode cJ0_isLatin1_aae02 6 = .ok (.aload_n 0, 1) := by decide +kernel
theorem dJ0_isLatin1_aae02_7 : decode cJ0_isLatin1_aae02 7 = .ok (.getfield 15, 3) := by decide +kernel
theorem dJ0_isLatin1_aae02_10 : decode cJ0_isLatin1_aae02 10 = .ok (.ifCond .ne 7, 3) := by decide +kernel
theorem dJ0_isLatin1_aae02_13 : decode cJ0_isLatin1_aae02 13 = .ok (.iconst 1, 1) := by decide +kernel
theorem dJ0_isLatin1_aae02_14 : decode cJ0_isLatin1_aae02 14 = .ok (.goto 4, 3) := by decide +kernel
theorem dJ0_isLatin1_aae02_18 : decode cJ0_isLatin1_aae02 18 = .ok (.ireturn, 1) := by decide +kernel
theorem dJ0_length_8abf5_0 : decode cJ0_length_8abf5 0 = .ok (.aload_n 0, 1) := by decide +kernel
theorem dJ0_length_8abf5_1 : decode cJ0_length_8abf5 1 = .ok (.getfield 9, 3) := by decide +kernel
theorem dJ0_length_8abf5_4 : decode cJ0_length_8abf5 4 = .ok (.arraylength, 1) := by decide +kernel
theorem dJ0_length_8abf5_5 : decode cJ0_length_8abf5 5 = .ok (.aload_n 0, 1) := by decide +kernel
theorem dJ0_length_8abf5_6 : decode cJ0_length_8abf5 6 = .ok (.invokevirtual 335, 3) := by decide +kernel
theorem dJ0_length_8abf5_9 : decode cJ0_length_8abf5 9 = .ok (.ishr, 1) := by decide +kernel
theorem dJ0_length_8abf5_10 : decode cJ0_length_8abf5 10 = .ok (.ireturn, 1) := by decide +kernel
theorem dJ1_charAt_3b067_0 : decode cJ1_charAt_3b067 0 = .ok (.iload_n 1, 1) := by decide +kernel
theorem dJ1_charAt_3b067_1 : decode cJ1_charAt_3b067 1 = .ok (.aload_n 0, 1) := by decide +kernel
theorem dJ1_charAt_3b067_2 : decode cJ1_charAt_3b067 2 = .ok (.arraylength, 1) := by decide +kernel
theorem dJ1_charAt_3b067_3 : decode cJ1_charAt_3b067 3 = .ok (.invokestatic 9, 3) := by decide +kernel
theorem dJ1_charAt_3b067_6 : decode cJ1_charAt_3b067 6 = .ok (.aload_n 0, 1) := by decide +kernel
theorem dJ1_charAt_3b067_7 : decode cJ1_charAt_3b067 7 = .ok (.iload_n 1, 1) := by decide +kernel
theorem dJ1_charAt_3b067_8 : decode cJ1_charAt_3b067 8 = .ok (.baload, 1) := by decide +kernel
theorem dJ1_charAt_3b067_9 : decode cJ1_charAt_3b067 9 = .ok (.sipush 255, 3) := by decide +kernel
theorem dJ1_charAt_3b067_12 : decode cJ1_charAt_3b067 12 = .ok (.iand, 1) := by decide +kernel
theorem dJ1_charAt_3b067_13 : decode cJ1_charAt_3b067 13 = .ok (.i2c, 1) := by decide +kernel
theorem dJ1_charAt_3b067_14 : decode cJ1_charAt_3b067 14 = .ok (.ireturn, 1) := by decide +kernel
theorem dJ3_checkIndex_8e157_0 : decode cJ3_checkIndex_8e157 0 = .ok (.iload_n 0, 1) := by decide +kernel
theorem dJ3_checkIndex_8e157_1 : decode cJ3_checkIndex_8e157 1 = .ok (.ifCond .lt 8, 3) := by decide +kernel
theorem dJ3_checkIndex_8e157_4 : decode cJ3_checkIndex_8e157 4 = .ok (.iload_n 0, 1) := by decide +kernel
theorem dJ3_checkIndex_8e157_5 : decode cJ3_checkIndex_8e157 5 = .ok (.iload_n 1, 1) := by decide +kernel
theorem dJ3_checkIndex_8e157_6 : decode cJ3_checkIndex_8e157 6 = .ok (.if_icmp .lt 10, 3) := by decide +kernel
theorem dJ3_checkIndex_8e157_16 : decode cJ3_checkIndex_8e157 16 = .ok (.iload_n 0, 1) := by decide +kernel
theorem dJ3_checkIndex_8e157_17 : decode cJ3_checkIndex_8e157 17 = .ok (.ireturn, 1) := by decide +kernel
/-! read-only methods of the JDK, over a world E that lies outside the pool -/
def Pe_ (D : va_G) (cy : Nat → ClassId) (E : State → Prop) (U : State) : Prop := va_K D vwCl (tys_ cy) U ∧ E U
def z0_ : Nat → Nat := fun _ => 0
def zR_ : Nat → Nat → Option Nat := fun _ _ => none
def zI_ : Nat → Nat → Int32 := fun _ _ => 0
def zJ_ : Nat → Nat → Int64 := fun _ _ => 0
def CeI (l : Launch) (y : MethodName) (cc : ByteArray) (nL : Nat) (ret : Option FieldType) (rm : Room) (D : va_G) (cy : Nat → ClassId) (E : State → Prop) (av : List Value) (post : Int32 → Prop) : Prop :=
  Met l y (Cond.code y cc nL ret :: GT) rm (va_Pc av (Pe_ D cy E)) (Qi_ D cy [] z0_ z0_ zR_ (fun r _ _ => post r)) 0 0 (Al_ [])
def CeV (l : Launch) (y : MethodName) (cc : ByteArray) (nL : Nat) (ret : Option FieldType) (rm : Room) (D : va_G) (cy : Nat → ClassId) (E : State → Prop) (av : List Value) : Prop :=
  Met l y (Cond.code y cc nL ret :: GT) rm (va_Pc av (Pe_ D cy E)) (Qv_ D cy [] z0_ z0_ zR_ (fun _ _ => True)) 0 0 (Al_ [])
theorem pl_nil {D : va_G} {f : Nat → va_E} {H : Heap} : va_P D vwCl (va_pl [] f) H := fun k q h => by simp [va_pl] at h
theorem CeI.of {l : Launch} {y : MethodName} {cc : ByteArray} {nL : Nat} {ret : Option FieldType} {rm : Room} {D : va_G} {cy : Nat → ClassId} {E : State → Prop} {av : List Value} {post : Int32 → Prop} (hy : plainName y.cls = true) (hn : (lg_sl av).length ≤ nL)
    (body : ∀ p e s m below meth c, Bd_ p s m av.toArray meth c cc nL y ret → Wc_ D cy (Al_ []) [] s → E s → WG p l e rm s m av.toArray below meth c nL 0 0 (MQ below (Qi_ D cy [] z0_ z0_ zR_ (fun r _ _ => post r)) av.toArray s 0 0 (Al_ [])) D cy (Al_ []) s.heap [] z0_ z0_ zR_ zI_ zJ_ 0 (lv_args 0 av) []) : CeI l y cc nL ret rm D cy E av post := by
  refine Met.ofW (cc := cc) (maxL := nL) (ret := ret) hy rfl ?_
  intro p e s m args below meth c s₁ B hml hv
  obtain ⟨rfl, hK, hE⟩ := hv
  have hts := atoms_spec (ws := Cond.code y cc nL ret :: GT) B.pre
  have hb : Bd_ p s m av.toArray meth c cc nL y ret := ⟨⟨B.exec, B.bytes, hml, findClass_of_methodNamed B.named, fun w hw => hts w (List.mem_cons_of_mem _ hw)⟩, B.returns, B.notSynchronized, (name_of_methodNamed B.named B.method).1⟩
  have h1 := body p e s m below meth c hb ⟨List.nodup_nil, fun q h => h, hK⟩ hE
  rw [lg_entry_eq]
  exact h1 s.heap [] _ pl_nil va_S.rf (lv_entry av hn)
theorem CeV.of {l : Launch} {y : MethodName} {cc : ByteArray} {nL : Nat} {ret : Option FieldType} {rm : Room} {D : va_G} {cy : Nat → ClassId} {E : State → Prop} {av : List Value} (hy : plainName y.cls = true) (hn : (lg_sl av).length ≤ nL)
    (body : ∀ p e s m below meth c, Bd_ p s m av.toArray meth c cc nL y ret → Wc_ D cy (Al_ []) [] s → E s → WG p l e rm s m av.toArray below meth c nL 0 0 (MQ below (Qv_ D cy [] z0_ z0_ zR_ (fun _ _ => True)) av.toArray s 0 0 (Al_ [])) D cy (Al_ []) s.heap [] z0_ z0_ zR_ zI_ zJ_ 0 (lv_args 0 av) []) : CeV l y cc nL ret rm D cy E av := by
  refine Met.ofW (cc := cc) (maxL := nL) (ret := ret) hy rfl ?_
  intro p e s m args below meth c s₁ B hml hv
  obtain ⟨rfl, hK, hE⟩ := hv
  have hts := atoms_spec (ws := Cond.code y cc nL ret :: GT) B.pre
  have hb : Bd_ p s m av.toArray meth c cc nL y ret := ⟨⟨B.exec, B.bytes, hml, findClass_of_methodNamed B.named, fun w hw => hts w (List.mem_cons_of_mem _ hw)⟩, B.returns, B.notSynchronized, (name_of_methodNamed B.named B.method).1⟩
  have h1 := body p e s m below meth c hb ⟨List.nodup_nil, fun q h => h, hK⟩ hE
  rw [lg_entry_eq]
  exact h1 s.heap [] _ pl_nil va_S.rf (lv_entry av hn)
theorem Pe_blind {D : va_G} {cy : Nat → ClassId} {E : State → Prop} {av : List Value} (hE : ∀ (u U : State), u.vm = U.vm → u.heap = U.heap → E u → E U) : FrameBlind (va_Pc av (Pe_ D cy E)) := fun a U g mk q => by
  obtain ⟨q0, qK, qE⟩ := q
  exact ⟨q0, va_K.moved (u := U) (U := U.calling g mk a) (Vm.Alike.refl U.vm) qK, hE U _ rfl rfl qE⟩
section GE
variable {p : Program} {l : Launch} {e : Env} {Rm : Room} {s : State} {m : MethodId} {args : Array Value} {below : List Frame} {meth : Method} {c : Code} {cells slots : Nat} {Q : State → Prop}
variable {cc : ByteArray} {pc nL : Nat} {own : String} {D : va_G} {cy : Nat → ClassId} {A : Nat → Prop} {H0 : Heap} {L : List Nat} {κ ln : Nat → Nat} {R : Nat → Nat → Option Nat} {I : Nat → Nat → Int32} {J : Nat → Nat → Int64} {lo lo2 : List (Nat × Value)} {st : List Value}
variable {y : MethodName} {cc2 : ByteArray} {nL2 : Nat} {ret : Option FieldType} {rm : Room} {As : List Value} {b idx n : Nat} {Cn : String} {E : State → Prop}
theorem P_kept {ws : va_W} {H H1 : Heap} (hP : va_P D vwCl ws H) (hk : ∀ q : Nat, q < H.size → H1[q]? = H[q]?) : va_P D vwCl ws H1 := fun k q h => va_at.kept (hP k q h) (hk _ (hP k q h).lt)
theorem e_callVI (C : CallFix p m c cc nL s args GT own) (K : Wc_ D cy A L s) {post : Int32 → Prop} (hM : CeI l y cc2 nL2 ret rm D cy E (.ref b :: As) post) (hEb : ∀ (u U : State), u.vm = U.vm → u.heap = U.heap → E u → E U) (hE : ∀ (H : Heap) (locs : List Loc) (U : State), va_S A H0 H locs → U.heap = H → s.WarmedH U.vm → E U) (hrc : ∀ (H : Heap) (locs : List Loc), va_S A H0 H locs → ∃ cell : Cell, H[b]? = some cell ∧ cell.vm.isStatics = false ∧ s.vm.findClass Cn = some cell.cls) (hw : Vw_ own idx Cn y cc2 nL2 ret n) (hn : As.length = n) (hr0 : rm.cells = 0 ∧ rm.slots = 0) (hrm : rm.frames + 1 ≤ Rm.frames ∧ 8 + (nL2 + 11) + rm.locals ≤ Rm.locals) (hcat : (st.map fun v => v.category).sum ≤ 8) (hcs : cells + 0 ≤ Rm.cells ∧ slots + 0 ≤ Rm.slots) (hd : decode cc pc = .ok (.invokevirtual idx, 3)) {st0 : List Value} (hst : st0 = As.reverse ++ .ref b :: st)
    (kk : ∀ (r : Int32), post r → WG p l e Rm s m args below meth c nL cells slots Q D cy A H0 L κ ln R I J (pc + 3) lo (.int r :: st)) : WG p l e Rm s m args below meth c nL cells slots Q D cy A H0 L κ ln R I J pc lo st0 := by
  intro H locs ls hP hS hl
  subst hst
  refine va_calli (va_runV (As := As) (rest := st) C hM (cwV n C.2.2.2.2 (gi_V hw) rfl hr0.1 hr0.2 hw.2.2.2.2.2 hrm) ⟨Pe_blind hEb, hrc H locs hS, fun U hU hW => ⟨rfl, va_K.moved hW.alike K.2.2, hE H locs U hS hU hW⟩⟩ rfl hn hl.1 rfl (lv_room hcat) hd hcs) hS (fun q _ h => absurd h List.not_mem_nil) (fun q h => absurd h List.not_mem_nil) (fun r u t H1 locs1 ht hvm hw1 hB hz1 hk1 hS1 => ?_)
  exact kk r hw1 H1 locs1 ls (P_kept hP (fun q hq => hk1 q hq List.not_mem_nil)) hS1 hl
theorem e_callSI (C : CallFix p m c cc nL s args GT own) (K : Wc_ D cy A L s) {post : Int32 → Prop} (hM : CeI l y cc2 nL2 ret rm D cy E As post) (hEb : ∀ (u U : State), u.vm = U.vm → u.heap = U.heap → E u → E U) (hE : ∀ (H : Heap) (locs : List Loc) (U : State), va_S A H0 H locs → U.heap = H → s.WarmedH U.vm → E U) (hw : Sw_ own idx y cc2 nL2 ret n) (hn : As.length = n) (hr0 : rm.cells = 0 ∧ rm.slots = 0) (hrm : rm.frames + 1 ≤ Rm.frames ∧ 8 + (nL2 + 11) + rm.locals ≤ Rm.locals) (hcat : (st.map fun v => v.category).sum ≤ 8) (hcs : cells + 0 ≤ Rm.cells ∧ slots + 0 ≤ Rm.slots) (hd : decode cc pc = .ok (.invokestatic idx, 3)) {st0 : List Value} (hst : st0 = As.reverse ++ st)
    (kk : ∀ (r : Int32), post r → WG p l e Rm s m args below meth c nL cells slots Q D cy A H0 L κ ln R I J (pc + 3) lo (.int r :: st)) : WG p l e Rm s m args below meth c nL cells slots Q D cy A H0 L κ ln R I J pc lo st0 := by
  intro H locs ls hP hS hl
  subst hst
  refine va_calli (va_runS (As := As) (rest := st) C hM (va_cwS n C.2.2.2.2 (gi_S hw) rfl hr0.1 hr0.2 hw.2.2.2.2 hrm) ⟨Pe_blind hEb, fun U hU hW => ⟨rfl, va_K.moved hW.alike K.2.2, hE H locs U hS hU hW⟩⟩ rfl hn hl.1 rfl (lv_room hcat) hd hcs) hS (fun q _ h => absurd h List.not_mem_nil) (fun q h => absurd h List.not_mem_nil) (fun r u t H1 locs1 ht hvm hw1 hB hz1 hk1 hS1 => ?_)
  exact kk r hw1 H1 locs1 ls (P_kept hP (fun q hq => hk1 q hq List.not_mem_nil)) hS1 hl
theorem e_callVV (C : CallFix p m c cc nL s args GT own) (K : Wc_ D cy A L s) (hM : CeV l y cc2 nL2 ret rm D cy E (.ref b :: As)) (hEb : ∀ (u U : State), u.vm = U.vm → u.heap = U.heap → E u → E U) (hE : ∀ (H : Heap) (locs : List Loc) (U : State), va_S A H0 H locs → U.heap = H → s.WarmedH U.vm → E U) (hrc : ∀ (H : Heap) (locs : List Loc), va_S A H0 H locs → ∃ cell : Cell, H[b]? = some cell ∧ cell.vm.isStatics = false ∧ s.vm.findClass Cn = some cell.cls) (hw : Vw_ own idx Cn y cc2 nL2 ret n) (hn : As.length = n) (hr0 : rm.cells = 0 ∧ rm.slots = 0) (hrm : rm.frames + 1 ≤ Rm.frames ∧ 8 + (nL2 + 11) + rm.locals ≤ Rm.locals) (hcat : (st.map fun v => v.category).sum ≤ 8) (hcs : cells + 0 ≤ Rm.cells ∧ slots + 0 ≤ Rm.slots) (hd : decode cc pc = .ok (.invokevirtual idx, 3)) {st0 : List Value} (hst : st0 = As.reverse ++ .ref b :: st)
    (kk : WG p l e Rm s m args below meth c nL cells slots Q D cy A H0 L κ ln R I J (pc + 3) lo st) : WG p l e Rm s m args below meth c nL cells slots Q D cy A H0 L κ ln R I J pc lo st0 := by
  intro H locs ls hP hS hl
  subst hst
  refine va_callv (va_runV (As := As) (rest := st) C hM (cwV n C.2.2.2.2 (gi_V hw) rfl hr0.1 hr0.2 hw.2.2.2.2.2 hrm) ⟨Pe_blind hEb, hrc H locs hS, fun U hU hW => ⟨rfl, va_K.moved hW.alike K.2.2, hE H locs U hS hU hW⟩⟩ rfl hn hl.1 rfl (lv_room hcat) hd hcs) hS (fun q _ h => absurd h List.not_mem_nil) (fun q h => absurd h List.not_mem_nil) (fun u t H1 locs1 ht hvm hw1 hB hz1 hk1 hS1 => ?_)
  exact kk H1 locs1 ls (P_kept hP (fun q hq => hk1 q hq List.not_mem_nil)) hS1 hl
theorem e_callSV (C : CallFix p m c cc nL s args GT own) (K : Wc_ D cy A L s) (hM : CeV l y cc2 nL2 ret rm D cy E As) (hEb : ∀ (u U : State), u.vm = U.vm → u.heap = U.heap → E u → E U) (hE : ∀ (H : Heap) (locs : List Loc) (U : State), va_S A H0 H locs → U.heap = H → s.WarmedH U.vm → E U) (hw : Sw_ own idx y cc2 nL2 ret n) (hn : As.length = n) (hr0 : rm.cells = 0 ∧ rm.slots = 0) (hrm : rm.frames + 1 ≤ Rm.frames ∧ 8 + (nL2 + 11) + rm.locals ≤ Rm.locals) (hcat : (st.map fun v => v.category).sum ≤ 8) (hcs : cells + 0 ≤ Rm.cells ∧ slots + 0 ≤ Rm.slots) (hd : decode cc pc = .ok (.invokestatic idx, 3)) {st0 : List Value} (hst : st0 = As.reverse ++ st)
    (kk : WG p l e Rm s m args below meth c nL cells slots Q D cy A H0 L κ ln R I J (pc + 3) lo st) : WG p l e Rm s m args below meth c nL cells slots Q D cy A H0 L κ ln R I J pc lo st0 := by
  intro H locs ls hP hS hl
  subst hst
  refine va_callv (va_runS (As := As) (rest := st) C hM (va_cwS n C.2.2.2.2 (gi_S hw) rfl hr0.1 hr0.2 hw.2.2.2.2 hrm) ⟨Pe_blind hEb, fun U hU hW => ⟨rfl, va_K.moved hW.alike K.2.2, hE H locs U hS hU hW⟩⟩ rfl hn hl.1 rfl (lv_room hcat) hd hcs) hS (fun q _ h => absurd h List.not_mem_nil) (fun q h => absurd h List.not_mem_nil) (fun u t H1 locs1 ht hvm hw1 hB hz1 hk1 hS1 => ?_)
  exact kk H1 locs1 ls (P_kept hP (fun q hq => hk1 q hq List.not_mem_nil)) hS1 hl
theorem e_gets (C : CallFix p m c cc nL s args GT own) {Cz n d : String} {v : Value} {idx : Nat} (hZ : va_Z Cz n d v A s s.heap) (hlk : Cond.fieldLink own idx Cz n d ∈ GT) (hd : decode cc pc = .ok (.getstatic idx, 3)) (kk : WG p l e Rm s m args below meth c nL cells slots Q D cy A s.heap L κ ln R I J (pc + 3) lo (v :: st)) : WG p l e Rm s m args below meth c nL cells slots Q D cy A s.heap L κ ln R I J pc lo st := fun H locs ls hP hS hl => va_gets C.1 C.2.1 hZ hS C.2.2.2.1 (C.2.2.2.2 _ hlk) (fun _ h => h) hd (kk H locs ls hP hS hl)
theorem e_getf (C : CallFix p m c cc nL s args GT own) {o n d : String} {v : Value} {idx q : Nat} (hE : va_OF o n d v q A s s.heap) (hlk : Cond.fieldLink own idx o n d ∈ GT) (hd : decode cc pc = .ok (.getfield idx, 3)) (kk : WG p l e Rm s m args below meth c nL cells slots Q D cy A s.heap L κ ln R I J (pc + 3) lo (v :: st)) : WG p l e Rm s m args below meth c nL cells slots Q D cy A s.heap L κ ln R I J pc lo (.ref q :: st) := fun H locs ls hP hS hl => vk_getf C.1 C.2.1 hE hS C.2.2.2.1 (C.2.2.2.2 _ hlk) (fun _ h => h) hd (kk H locs ls hP hS hl)
theorem e_len (C : CallFix p m c cc nL s args GT own) {t N : Nat} {f : Nat → Value} {ty : FieldType} (hT : va_T ty t N f A s s.heap) {v : Int32} (hv : Int32.ofNat N = v) (hd : decode cc pc = .ok (.arraylength, 1)) (kk : WG p l e Rm s m args below meth c nL cells slots Q D cy A s.heap L κ ln R I J (pc + 1) lo (.int v :: st)) : WG p l e Rm s m args below meth c nL cells slots Q D cy A s.heap L κ ln R I J pc lo (.ref t :: st) := fun H locs ls hP hS hl => va_tlen C.1 C.2.1 hT hS hv hd (kk H locs ls hP hS hl)
theorem e_bald (C : CallFix p m c cc nL s args GT own) {t N : Nat} {f : Nat → Value} (hT : va_T .byte t N f A s s.heap) {i : Int32} (hin : vp_in i N) {v : Value} (hv : f i.toNatClampNeg = v) (hd : decode cc pc = .ok (.baload, 1)) (kk : WG p l e Rm s m args below meth c nL cells slots Q D cy A s.heap L κ ln R I J (pc + 1) lo (v :: st)) : WG p l e Rm s m args below meth c nL cells slots Q D cy A s.heap L κ ln R I J pc lo (.int i :: .ref t :: st) := fun H locs ls hP hS hl => va_tb C.1 C.2.1 hT hS hin hv hd (kk H locs ls hP hS hl)
theorem e_i2c (C : CallFix p m c cc nL s args GT own) {x v : Int32} (hd : decode cc pc = .ok (.i2c, 1)) (hv : (x.toUInt32 % 65536).toInt32 = v) (kk : WG p l e Rm s m args below meth c nL cells slots Q D cy A H0 L κ ln R I J (pc + 1) lo (.int v :: st)) : WG p l e Rm s m args below meth c nL cells slots Q D cy A H0 L κ ln R I J pc lo (.int x :: st) := fun H locs ls hP hS hl => lv_i2c C.1 C.2.1 hd hv (kk H locs ls hP hS hl)
theorem e_ldcS (C : CallFix p m c cc nL s args GT own) {tx : String} {idx q : Nat} (hZ : vk_R own idx tx q s) (hd : decode cc pc = .ok (.ldc idx, 2)) (kk : WG p l e Rm s m args below meth c nL cells slots Q D cy A H0 L κ ln R I J (pc + 2) lo (.ref q :: st)) : WG p l e Rm s m args below meth c nL cells slots Q D cy A H0 L κ ln R I J pc lo st := fun H locs ls hP hS hl => va_ldcS C.1 C.2.1 C.2.2.2.1 hZ hd (kk H locs ls hP hS hl)
end GE
/-- a text of N bytes f at k, its row at v; outside A -/
def Es_ (k v N : Nat) (f : Nat → Int32) (A : Nat → Prop) (U : State) : Prop := va_Z "java/lang/String" "COMPACT_STRINGS" "Z" (.int 1) A U U.heap ∧ va_Zq "jdk/internal/util/Preconditions" "SIOOBE_FORMATTER" "Ljava/util/function/BiFunction;" A U U.heap ∧ va_O "java/lang/String" k A U U.heap ∧ va_OF "java/lang/String" "coder" "B" (.int 0) k A U U.heap ∧ va_OF "java/lang/String" "value" "[B" (.ref v) k A U U.heap ∧ va_T .byte v N (fun j => .int (f j)) A U U.heap
theorem Es_.go {k v N : Nat} {f : Nat → Int32} {A B : Nat → Prop} {s U : State} (h : Es_ k v N f A s) (hvm : s.vm.Alike U.vm) (hq : ∀ a : Nat, a < s.heap.size → ¬ A a → U.heap[a]? = s.heap[a]?) (hB : ∀ q, B q → A q) : Es_ k v N f B U := by
  obtain ⟨h1, h2, h3, h4, h5, h6⟩ := h
  exact ⟨((h1.moved hvm).kept hq).narrow hB, ((h2.moved hvm).kept hq).narrow hB, ((h3.moved hvm).kept hq).narrow hB, ((h4.moved hvm).kept hq).narrow hB, ((h5.moved hvm).kept hq).narrow hB, ((h6.moved hvm).kept hq).narrow hB⟩
theorem Es_.blind {k v N : Nat} {f : Nat → Int32} {A : Nat → Prop} : ∀ (u U : State), u.vm = U.vm → u.heap = U.heap → Es_ k v N f A u → Es_ k v N f A U := fun u U hv hh h => h.go (by rw [hv]; exact Vm.Alike.refl _) (fun a _ _ => by rw [hh]) (fun _ h => h)
theorem Es_.call {k v N : Nat} {f : Nat → Int32} {A : Nat → Prop} {s : State} (h : Es_ k v N f A s) : ∀ (H : Heap) (locs : List Loc) (U : State), va_S A s.heap H locs → U.heap = H → s.WarmedH U.vm → Es_ k v N f (Al_ []) U := fun H locs U hS hU hW => h.go hW.alike (fun a h1 h2 => by rw [hU]; exact hS.2.1 a h1 h2) (fun q hq => absurd hq List.not_mem_nil)
theorem Es_.recv {k v N : Nat} {f : Nat → Int32} {A : Nat → Prop} {s : State} (h : Es_ k v N f A s) : ∀ (H : Heap) (locs : List Loc), va_S A s.heap H locs → ∃ cell : Cell, H[k]? = some cell ∧ cell.vm.isStatics = false ∧ s.vm.findClass "java/lang/String" = some cell.cls := fun H locs hS => by
  obtain ⟨cell, h1, h2, h3, -⟩ := h.2.2.1.kept hS.2.1
  exact ⟨cell, h1, h2, h3⟩
theorem ef_38 : Cond.fieldLink "java/lang/String" 38 "java/lang/String" "COMPACT_STRINGS" "Z" ∈ GT := gt_in 152 (by decide +kernel) (by decide +kernel)
theorem ef_9 : Cond.fieldLink "java/lang/String" 9 "java/lang/String" "value" "[B" ∈ GT := gt_in 1984 (by decide +kernel) (by decide +kernel)
theorem ef_15 : Cond.fieldLink "java/lang/String" 15 "java/lang/String" "coder" "B" ∈ GT := gt_in 1985 (by decide +kernel) (by decide +kernel)
theorem ef_1053 : Cond.fieldLink "java/lang/String" 1053 "jdk/internal/util/Preconditions" "SIOOBE_FORMATTER" "Ljava/util/function/BiFunction;" ∈ GT := gt_in 168 (by decide +kernel) (by decide +kernel)
theorem ev_coder : Vw_ "java/lang/String" 335 "java/lang/String" yJ0_coder_7d493 cJ0_coder_7d493 1 (some .byte) 0 := ⟨gt_in 148 (by decide +kernel) (by decide +kernel), gt_in 149 (by decide +kernel) (by decide +kernel), gt_in 150 (by decide +kernel) (by decide +kernel), gt_in 107 (by decide +kernel) (by decide +kernel), gt_in 151 (by decide +kernel) (by decide +kernel), by decide +kernel⟩
theorem ev_isLatin1 : Vw_ "java/lang/String" 492 "java/lang/String" yJ0_isLatin1_aae02 cJ0_isLatin1_aae02 1 (some .boolean) 0 := ⟨gt_in 158 (by decide +kernel) (by decide +kernel), gt_in 159 (by decide +kernel) (by decide +kernel), gt_in 160 (by decide +kernel) (by decide +kernel), gt_in 107 (by decide +kernel) (by decide +kernel), gt_in 161 (by decide +kernel) (by decide +kernel), by decide +kernel⟩
theorem es_l1 : Sw_ "java/lang/String" 495 yJ1_charAt_3b067 cJ1_charAt_3b067 2 (some .char) 2 := ⟨gt_in 162 (by decide +kernel) (by decide +kernel), gt_in 163 (by decide +kernel) (by decide +kernel), gt_in 108 (by decide +kernel) (by decide +kernel), gt_in 164 (by decide +kernel) (by decide +kernel), by decide +kernel⟩
theorem es_ck : Sw_ "java/lang/StringLatin1" 9 yJ0_checkIndex_df160 cJ0_checkIndex_df160 2 none 2 := ⟨gt_in 165 (by decide +kernel) (by decide +kernel), gt_in 166 (by decide +kernel) (by decide +kernel), gt_in 107 (by decide +kernel) (by decide +kernel), gt_in 167 (by decide +kernel) (by decide +kernel), by decide +kernel⟩
theorem es_pc : Sw_ "java/lang/String" 1059 yJ3_checkIndex_8e157 cJ3_checkIndex_8e157 3 (some .int) 3 := ⟨gt_in 170 (by decide +kernel) (by decide +kernel), gt_in 171 (by decide +kernel) (by decide +kernel), gt_in 109 (by decide +kernel) (by decide +kernel), gt_in 172 (by decide +kernel) (by decide +kernel), by decide +kernel⟩
theorem ev_length : Vw_ RX10 57 "java/lang/String" yJ0_length_8abf5 cJ0_length_8abf5 1 (some .int) 0 := ⟨gt_in 144 (by decide +kernel) (by decide +kernel), gt_in 145 (by decide +kernel) (by decide +kernel), gt_in 146 (by decide +kernel) (by decide +kernel), gt_in 107 (by decide +kernel) (by decide +kernel), gt_in 147 (by decide +kernel) (by decide +kernel), by decide +kernel⟩
theorem ev_charAt : Vw_ RX10 62 "java/lang/String" yJ0_charAt_5068e cJ0_charAt_5068e 2 (some .char) 1 := ⟨gt_in 154 (by decide +kernel) (by decide +kernel), gt_in 155 (by decide +kernel) (by decide +kernel), gt_in 156 (by decide +kernel) (by decide +kernel), gt_in 107 (by decide +kernel) (by decide +kernel), gt_in 157 (by decide +kernel) (by decide +kernel), by decide +kernel⟩
theorem sh_0 (x : Int32) : x >>> ((0 : Int32) &&& 31) = x := by
  apply Int32.toInt_inj.mp
  rw [pk_shr x _ 0 (by decide)]
  simp
set_option maxRecDepth 100000 in
set_option maxHeartbeats 4000000 in
theorem j_coder {l : Launch} {D : va_G} {cy : Nat → ClassId} {k v N : Nat} {f : Nat → Int32}  : CeI l yJ0_coder_7d493 cJ0_coder_7d493 1 (some .byte) { frames := 0, cells := 0, slots := 0, locals := 0 } D cy (Es_ k v N f (Al_ [])) [.ref k] (fun r => r = 0) := by
  refine CeI.of (by decide +kernel) (Nat.le_of_ble_eq_true rfl) ?_
  intro p e s m below meth c B K hE
  have C := B.1
  refine g_lo (is := [0]) (lo2 := [(0, .ref k)]) rfl ?_
  refine e_gets C hE.1 ef_38 dJ0_coder_7d493_0 ?_
  refine n_if_eq C (tgt := 13) (by decide) dJ0_coder_7d493_3 (by decide) ?_
  refine g_aload_n C 0 dJ0_coder_7d493_6 rfl rfl ?_
  refine e_getf C hE.2.2.2.1 ef_15 dJ0_coder_7d493_7 ?_
  refine g_goto C (tgt := 14) dJ0_coder_7d493_10 (by decide) ?_
  exact g_zret (ty := .byte) (r := 0) B K rfl rfl rfl dJ0_coder_7d493_14
set_option maxRecDepth 100000 in
set_option maxHeartbeats 4000000 in
theorem j_isLatin1 {l : Launch} {D : va_G} {cy : Nat → ClassId} {k v N : Nat} {f : Nat → Int32}  : CeI l yJ0_isLatin1_aae02 cJ0_isLatin1_aae02 1 (some .boolean) { frames := 0, cells := 0, slots := 0, locals := 0 } D cy (Es_ k v N f (Al_ [])) [.ref k] (fun r => r = 1) := by
  refine CeI.of (by decide +kernel) (Nat.le_of_ble_eq_true rfl) ?_
  intro p e s m below meth c B K hE
  have C := B.1
  refine g_lo (is := [0]) (lo2 := [(0, .ref k)]) rfl ?_
  refine e_gets C hE.1 ef_38 dJ0_isLatin1_aae02_0 ?_
  refine n_if_eq C (tgt := 17) (by decide) dJ0_isLatin1_aae02_3 (by decide) ?_
  refine g_aload_n C 0 dJ0_isLatin1_aae02_6 rfl rfl ?_
  refine e_getf C hE.2.2.2.1 ef_15 dJ0_isLatin1_aae02_7 ?_
  refine n_if_ne C (tgt := 17) rfl dJ0_isLatin1_aae02_10 (by decide) ?_
  refine g_iconst C (v := 1) dJ0_isLatin1_aae02_13 (by decide) ?_
  refine g_goto C (tgt := 18) dJ0_isLatin1_aae02_14 (by decide) ?_
  exact g_zret (ty := .boolean) (r := 1) B K rfl rfl rfl dJ0_isLatin1_aae02_18
set_option maxRecDepth 100000 in
set_option maxHeartbeats 4000000 in
theorem j_length {l : Launch} {D : va_G} {cy : Nat → ClassId} {k v N : Nat} {f : Nat → Int32} (hN : N < 2147483648) : CeI l yJ0_length_8abf5 cJ0_length_8abf5 1 (some .int) { frames := 1, cells := 0, slots := 0, locals := 60 } D cy (Es_ k v N f (Al_ [])) [.ref k] (fun r => r = nI N) := by
  refine CeI.of (by decide +kernel) (Nat.le_of_ble_eq_true rfl) ?_
  intro p e s m below meth c B K hE
  have C := B.1
  refine g_lo (is := [0]) (lo2 := [(0, .ref k)]) rfl ?_
  refine g_aload_n C 0 dJ0_length_8abf5_0 rfl rfl ?_
  refine e_getf C hE.2.2.2.2.1 ef_9 dJ0_length_8abf5_1 ?_
  refine e_len C hE.2.2.2.2.2 (v := nI N) rfl dJ0_length_8abf5_4 ?_
  refine g_aload_n C 0 dJ0_length_8abf5_5 rfl rfl ?_
  refine e_callVI C K (j_coder (k := k) (v := v) (N := N) (f := f)) Es_.blind hE.call hE.recv ev_coder rfl ⟨rfl, rfl⟩ ⟨Nat.le_of_ble_eq_true rfl, Nat.le_of_ble_eq_true rfl⟩ (Nat.le_of_ble_eq_true rfl) ⟨Nat.le_of_ble_eq_true rfl, Nat.le_of_ble_eq_true rfl⟩ dJ0_length_8abf5_6 rfl (st := [.int (nI N)]) (fun r hr => ?_)
  subst hr
  refine g_ishr C (v := nI N) dJ0_length_8abf5_9 (sh_0 _) ?_
  exact g_zret (ty := .int) (r := nI N) B K rfl rfl rfl dJ0_length_8abf5_10
set_option maxRecDepth 100000 in
set_option maxHeartbeats 4000000 in
theorem j_pcheck {l : Launch} {D : va_G} {cy : Nat → ClassId} {N : Nat} (i : Nat) (hi : i < N) (hN : N < 2147483648) (z : Value) (hz : z.category = 1) : CeI l yJ3_checkIndex_8e157 cJ3_checkIndex_8e157 3 (some .int) { frames := 0, cells := 0, slots := 0, locals := 0 } D cy (fun _ => True) [.int (nI i), .int (nI N), z] (fun r => r = nI i) := by
  refine CeI.of (by decide +kernel) (by simp [lg_sl, hz]; exact Nat.le_of_ble_eq_true rfl) ?_
  intro p e s m below meth c B K hE
  have C := B.1
  refine g_lo (is := [0, 1]) (lo2 := [(0, .int (nI i)), (1, .int (nI N))]) rfl ?_
  refine g_iload_n C 0 dJ3_checkIndex_8e157_0 rfl rfl ?_
  refine n_if_lt C (tgt := 9) (nI_pos (by omega)) dJ3_checkIndex_8e157_1 (by decide) ?_
  refine g_iload_n C 0 dJ3_checkIndex_8e157_4 rfl rfl ?_
  refine g_iload_n C 1 dJ3_checkIndex_8e157_5 rfl rfl ?_
  refine t_icmp_lt C (tgt := 16) (nI_lt hi hN) dJ3_checkIndex_8e157_6 (by decide) ?_
  refine g_iload_n C 0 dJ3_checkIndex_8e157_16 rfl rfl ?_
  exact g_zret (ty := .int) (r := nI i) B K rfl rfl rfl dJ3_checkIndex_8e157_17
set_option maxRecDepth 100000 in
set_option maxHeartbeats 4000000 in
theorem j_check {l : Launch} {D : va_G} {cy : Nat → ClassId} {k v N : Nat} {f : Nat → Int32} (i : Nat) (hi : i < N) (hN : N < 2147483648) : CeV l yJ0_checkIndex_df160 cJ0_checkIndex_df160 2 none { frames := 1, cells := 0, slots := 0, locals := 60 } D cy (Es_ k v N f (Al_ [])) [.int (nI i), .int (nI N)] := by
  refine CeV.of (by decide +kernel) (Nat.le_of_ble_eq_true rfl) ?_
  intro p e s m below meth c B K hE
  have C := B.1
  refine g_lo (is := [0, 1]) (lo2 := [(0, .int (nI i)), (1, .int (nI N))]) rfl ?_
  obtain ⟨z, hz1, hz⟩ : ∃ z : Value, z.category = 1 ∧ va_Z "jdk/internal/util/Preconditions" "SIOOBE_FORMATTER" "Ljava/util/function/BiFunction;" z (Al_ []) s s.heap := by
    rcases hE.2.1 with h | ⟨t, h⟩
    · exact ⟨.null, rfl, h⟩
    · exact ⟨.ref t, rfl, h⟩
  refine g_iload_n C 0 dJ0_checkIndex_df160_0 rfl rfl ?_
  refine g_iload_n C 1 dJ0_checkIndex_df160_1 rfl rfl ?_
  refine e_gets C hz ef_1053 dJ0_checkIndex_df160_2 ?_
  refine e_callSI C K (j_pcheck i hi hN z hz1) (fun _ _ _ _ _ => trivial) (fun _ _ _ _ _ _ => trivial) es_pc rfl ⟨rfl, rfl⟩ ⟨Nat.le_of_ble_eq_true rfl, Nat.le_of_ble_eq_true rfl⟩ (Nat.le_of_ble_eq_true rfl) ⟨Nat.le_of_ble_eq_true rfl, Nat.le_of_ble_eq_true rfl⟩ dJ0_checkIndex_df160_5 rfl (st := []) (fun r hr => ?_)
  refine g_pop C dJ0_checkIndex_df160_8 rfl ?_
  exact g_vret B K rfl trivial dJ0_checkIndex_df160_9
set_option maxRecDepth 100000 in
set_option maxHeartbeats 4000000 in
theorem j_l1 {l : Launch} {D : va_G} {cy : Nat → ClassId} {k v N : Nat} {f : Nat → Int32} (i : Nat) (hi : i < N) (hN : N < 2147483648) : CeI l yJ1_charAt_3b067 cJ1_charAt_3b067 2 (some .char) { frames := 2, cells := 0, slots := 0, locals := 120 } D cy (Es_ k v N f (Al_ [])) [.ref v, .int (nI i)] (fun r => narrow .char (.int r) = .int r ∧ r = ((f i &&& 255).toUInt32 % 65536).toInt32) := by
  refine CeI.of (by decide +kernel) (Nat.le_of_ble_eq_true rfl) ?_
  intro p e s m below meth c B K hE
  have C := B.1
  refine g_lo (is := [0, 1]) (lo2 := [(0, .ref v), (1, .int (nI i))]) rfl ?_
  refine g_iload_n C 1 dJ1_charAt_3b067_0 rfl rfl ?_
  refine g_aload_n C 0 dJ1_charAt_3b067_1 rfl rfl ?_
  refine e_len C hE.2.2.2.2.2 (v := nI N) rfl dJ1_charAt_3b067_2 ?_
  refine e_callSV C K (j_check (k := k) (v := v) (N := N) (f := f) i hi hN) Es_.blind hE.call es_ck rfl ⟨rfl, rfl⟩ ⟨Nat.le_of_ble_eq_true rfl, Nat.le_of_ble_eq_true rfl⟩ (Nat.le_of_ble_eq_true rfl) ⟨Nat.le_of_ble_eq_true rfl, Nat.le_of_ble_eq_true rfl⟩ dJ1_charAt_3b067_3 rfl (st := []) ?_
  refine g_aload_n C 0 dJ1_charAt_3b067_6 rfl rfl ?_
  refine g_iload_n C 1 dJ1_charAt_3b067_7 rfl rfl ?_
  refine e_bald C hE.2.2.2.2.2 (vi_of (nI_clamp (by omega)) (nI_pos (by omega)) hi) rfl dJ1_charAt_3b067_8 ?_
  refine g_sipush C (v := 255) dJ1_charAt_3b067_9 (by decide) ?_
  refine g_iand C dJ1_charAt_3b067_12 rfl ?_
  refine e_i2c C dJ1_charAt_3b067_13 rfl ?_
  exact g_zret (ty := .char) B K rfl (pk_nc _) ⟨pk_nc _, by rw [nI_clamp (by omega)]⟩ dJ1_charAt_3b067_14
set_option maxRecDepth 100000 in
set_option maxHeartbeats 4000000 in
theorem j_charAt {l : Launch} {D : va_G} {cy : Nat → ClassId} {k v N : Nat} {f : Nat → Int32} (i : Nat) (hi : i < N) (hN : N < 2147483648) : CeI l yJ0_charAt_5068e cJ0_charAt_5068e 2 (some .char) { frames := 3, cells := 0, slots := 0, locals := 180 } D cy (Es_ k v N f (Al_ [])) [.ref k, .int (nI i)] (fun r => narrow .char (.int r) = .int r ∧ r = ((f i &&& 255).toUInt32 % 65536).toInt32) := by
  refine CeI.of (by decide +kernel) (Nat.le_of_ble_eq_true rfl) ?_
  intro p e s m below meth c B K hE
  have C := B.1
  refine g_lo (is := [0, 1]) (lo2 := [(0, .ref k), (1, .int (nI i))]) rfl ?_
  refine g_aload_n C 0 dJ0_charAt_5068e_0 rfl rfl ?_
  refine e_callVI C K (j_isLatin1 (k := k) (v := v) (N := N) (f := f)) Es_.blind hE.call hE.recv ev_isLatin1 rfl ⟨rfl, rfl⟩ ⟨Nat.le_of_ble_eq_true rfl, Nat.le_of_ble_eq_true rfl⟩ (Nat.le_of_ble_eq_true rfl) ⟨Nat.le_of_ble_eq_true rfl, Nat.le_of_ble_eq_true rfl⟩ dJ0_charAt_5068e_1 rfl (st := []) (fun r hr => ?_)
  subst hr
  refine n_if_eq C (tgt := 16) (by decide) dJ0_charAt_5068e_4 (by decide) ?_
  refine g_aload_n C 0 dJ0_charAt_5068e_7 rfl rfl ?_
  refine e_getf C hE.2.2.2.2.1 ef_9 dJ0_charAt_5068e_8 ?_
  refine g_iload_n C 1 dJ0_charAt_5068e_11 rfl rfl ?_
  refine e_callSI C K (j_l1 (k := k) (v := v) (N := N) (f := f) i hi hN) Es_.blind hE.call es_l1 rfl ⟨rfl, rfl⟩ ⟨Nat.le_of_ble_eq_true rfl, Nat.le_of_ble_eq_true rfl⟩ (Nat.le_of_ble_eq_true rfl) ⟨Nat.le_of_ble_eq_true rfl, Nat.le_of_ble_eq_true rfl⟩ dJ0_charAt_5068e_12 rfl (st := []) (fun r hr => ?_)
  exact g_zret (ty := .char) (r := r) B K rfl hr.1 hr dJ0_charAt_5068e_15
