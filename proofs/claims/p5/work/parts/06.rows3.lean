/-- the world of a method that makes nothing -/
def Pu_ (D : va_G) (cy : Nat → ClassId) (L : List Nat) (κ ln : Nat → Nat) (R : Nat → Nat → Option Nat) (I : Nat → Nat → Int32) (J : Nat → Nat → Int64) (U : State) : Prop := va_P D vwCl (va_pl L (cel_ cy κ ln R I J)) U.heap ∧ va_K D vwCl (tys_ cy) U ∧ L.Nodup
def Al_ (L : List Nat) : Nat → Prop := fun q => q ∈ L
def Qi_ (D : va_G) (cy : Nat → ClassId) (L : List Nat) (κ ln : Nat → Nat) (R : Nat → Nat → Option Nat) (post : Int32 → (Nat → Nat → Int32) → (Nat → Nat → Int64) → Prop) : Array Value → State → Outcome → State → Prop := va_Qi (fun r (u : (Nat → Nat → Int32) × (Nat → Nat → Int64)) => post r u.1 u.2) (fun u t => Pu_ D cy L κ ln R u.1 u.2 t) (Al_ L)
def Ql_ (D : va_G) (cy : Nat → ClassId) (L : List Nat) (κ ln : Nat → Nat) (R : Nat → Nat → Option Nat) (post : Int64 → (Nat → Nat → Int32) → (Nat → Nat → Int64) → Prop) : Array Value → State → Outcome → State → Prop := va_Ql (fun r (u : (Nat → Nat → Int32) × (Nat → Nat → Int64)) => post r u.1 u.2) (fun u t => Pu_ D cy L κ ln R u.1 u.2 t) (Al_ L)
def Qv_ (D : va_G) (cy : Nat → ClassId) (L : List Nat) (κ ln : Nat → Nat) (R : Nat → Nat → Option Nat) (post : (Nat → Nat → Int32) → (Nat → Nat → Int64) → Prop) : Array Value → State → Outcome → State → Prop := va_Qv (fun (u : (Nat → Nat → Int32) × (Nat → Nat → Int64)) => post u.1 u.2) (fun u t => Pu_ D cy L κ ln R u.1 u.2 t) (Al_ L)
/-- a contract: answers an int (a boolean), a long, nothing -/
def CtI (l : Launch) (y : MethodName) (cc : ByteArray) (nL : Nat) (ret : Option FieldType) (rm : Room) (D : va_G) (cy : Nat → ClassId) (L : List Nat) (κ ln : Nat → Nat) (R : Nat → Nat → Option Nat) (I : Nat → Nat → Int32) (J : Nat → Nat → Int64) (av : List Value) (post : Int32 → (Nat → Nat → Int32) → (Nat → Nat → Int64) → Prop) : Prop :=
  Met l y (Cond.code y cc nL ret :: GT) rm (va_Pc av (Pu_ D cy L κ ln R I J)) (Qi_ D cy L κ ln R post) 0 0 (Al_ L)
def CtL (l : Launch) (y : MethodName) (cc : ByteArray) (nL : Nat) (ret : Option FieldType) (rm : Room) (D : va_G) (cy : Nat → ClassId) (L : List Nat) (κ ln : Nat → Nat) (R : Nat → Nat → Option Nat) (I : Nat → Nat → Int32) (J : Nat → Nat → Int64) (av : List Value) (post : Int64 → (Nat → Nat → Int32) → (Nat → Nat → Int64) → Prop) : Prop :=
  Met l y (Cond.code y cc nL ret :: GT) rm (va_Pc av (Pu_ D cy L κ ln R I J)) (Ql_ D cy L κ ln R post) 0 0 (Al_ L)
def CtV (l : Launch) (y : MethodName) (cc : ByteArray) (nL : Nat) (ret : Option FieldType) (rm : Room) (D : va_G) (cy : Nat → ClassId) (L : List Nat) (κ ln : Nat → Nat) (R : Nat → Nat → Option Nat) (I : Nat → Nat → Int32) (J : Nat → Nat → Int64) (av : List Value) (post : (Nat → Nat → Int32) → (Nat → Nat → Int64) → Prop) : Prop :=
  Met l y (Cond.code y cc nL ret :: GT) rm (va_Pc av (Pu_ D cy L κ ln R I J)) (Qv_ D cy L κ ln R post) 0 0 (Al_ L)
/-- what a method's body may use -/
def Bd_ (p : Program) (s : State) (m : MethodId) (args : Array Value) (meth : Method) (c : Code) (cc : ByteArray) (nL : Nat) (y : MethodName) (ret : Option FieldType) : Prop := CallFix p m c cc nL s args GT y.cls ∧ meth.sig.returnType = ret ∧ meth.locks = false ∧ meth.name = y.name
theorem CtI.of {l : Launch} {y : MethodName} {cc : ByteArray} {nL : Nat} {ret : Option FieldType} {rm : Room} {D : va_G} {cy : Nat → ClassId} {L : List Nat} {κ ln : Nat → Nat} {R : Nat → Nat → Option Nat} {I : Nat → Nat → Int32} {J : Nat → Nat → Int64} {av : List Value} {post : Int32 → (Nat → Nat → Int32) → (Nat → Nat → Int64) → Prop} (hy : plainName y.cls = true) (hn : (lg_sl av).length ≤ nL)
    (body : ∀ p e s m below meth c, Bd_ p s m av.toArray meth c cc nL y ret → Wc_ D cy (Al_ L) L s → WG p l e rm s m av.toArray below meth c nL 0 0 (MQ below (Qi_ D cy L κ ln R post) av.toArray s 0 0 (Al_ L)) D cy (Al_ L) s.heap L κ ln R I J 0 (lv_args 0 av) []) : CtI l y cc nL ret rm D cy L κ ln R I J av post := by
  refine Met.ofW (cc := cc) (maxL := nL) (ret := ret) hy rfl ?_
  intro p e s m args below meth c s₁ B hml hv
  obtain ⟨rfl, hP, hK, hN⟩ := hv
  have hts := atoms_spec (ws := Cond.code y cc nL ret :: GT) B.pre
  have hb : Bd_ p s m av.toArray meth c cc nL y ret := ⟨⟨B.exec, B.bytes, hml, findClass_of_methodNamed B.named, fun w hw => hts w (List.mem_cons_of_mem _ hw)⟩, B.returns, B.notSynchronized, (name_of_methodNamed B.named B.method).1⟩
  have h1 := body p e s m below meth c hb ⟨hN, fun q h => h, hK⟩
  rw [lg_entry_eq]
  exact h1 s.heap [] _ hP va_S.rf (lv_entry av hn)
theorem CtL.of {l : Launch} {y : MethodName} {cc : ByteArray} {nL : Nat} {ret : Option FieldType} {rm : Room} {D : va_G} {cy : Nat → ClassId} {L : List Nat} {κ ln : Nat → Nat} {R : Nat → Nat → Option Nat} {I : Nat → Nat → Int32} {J : Nat → Nat → Int64} {av : List Value} {post : Int64 → (Nat → Nat → Int32) → (Nat → Nat → Int64) → Prop} (hy : plainName y.cls = true) (hn : (lg_sl av).length ≤ nL)
    (body : ∀ p e s m below meth c, Bd_ p s m av.toArray meth c cc nL y ret → Wc_ D cy (Al_ L) L s → WG p l e rm s m av.toArray below meth c nL 0 0 (MQ below (Ql_ D cy L κ ln R post) av.toArray s 0 0 (Al_ L)) D cy (Al_ L) s.heap L κ ln R I J 0 (lv_args 0 av) []) : CtL l y cc nL ret rm D cy L κ ln R I J av post := by
  refine Met.ofW (cc := cc) (maxL := nL) (ret := ret) hy rfl ?_
  intro p e s m args below meth c s₁ B hml hv
  obtain ⟨rfl, hP, hK, hN⟩ := hv
  have hts := atoms_spec (ws := Cond.code y cc nL ret :: GT) B.pre
  have hb : Bd_ p s m av.toArray meth c cc nL y ret := ⟨⟨B.exec, B.bytes, hml, findClass_of_methodNamed B.named, fun w hw => hts w (List.mem_cons_of_mem _ hw)⟩, B.returns, B.notSynchronized, (name_of_methodNamed B.named B.method).1⟩
  have h1 := body p e s m below meth c hb ⟨hN, fun q h => h, hK⟩
  rw [lg_entry_eq]
  exact h1 s.heap [] _ hP va_S.rf (lv_entry av hn)
theorem CtV.of {l : Launch} {y : MethodName} {cc : ByteArray} {nL : Nat} {ret : Option FieldType} {rm : Room} {D : va_G} {cy : Nat → ClassId} {L : List Nat} {κ ln : Nat → Nat} {R : Nat → Nat → Option Nat} {I : Nat → Nat → Int32} {J : Nat → Nat → Int64} {av : List Value} {post : (Nat → Nat → Int32) → (Nat → Nat → Int64) → Prop} (hy : plainName y.cls = true) (hn : (lg_sl av).length ≤ nL)
    (body : ∀ p e s m below meth c, Bd_ p s m av.toArray meth c cc nL y ret → Wc_ D cy (Al_ L) L s → WG p l e rm s m av.toArray below meth c nL 0 0 (MQ below (Qv_ D cy L κ ln R post) av.toArray s 0 0 (Al_ L)) D cy (Al_ L) s.heap L κ ln R I J 0 (lv_args 0 av) []) : CtV l y cc nL ret rm D cy L κ ln R I J av post := by
  refine Met.ofW (cc := cc) (maxL := nL) (ret := ret) hy rfl ?_
  intro p e s m args below meth c s₁ B hml hv
  obtain ⟨rfl, hP, hK, hN⟩ := hv
  have hts := atoms_spec (ws := Cond.code y cc nL ret :: GT) B.pre
  have hb : Bd_ p s m av.toArray meth c cc nL y ret := ⟨⟨B.exec, B.bytes, hml, findClass_of_methodNamed B.named, fun w hw => hts w (List.mem_cons_of_mem _ hw)⟩, B.returns, B.notSynchronized, (name_of_methodNamed B.named B.method).1⟩
  have h1 := body p e s m below meth c hb ⟨hN, fun q h => h, hK⟩
  rw [lg_entry_eq]
  exact h1 s.heap [] _ hP va_S.rf (lv_entry av hn)
theorem Pu_blind {D : va_G} {cy : Nat → ClassId} {L : List Nat} {κ ln : Nat → Nat} {R : Nat → Nat → Option Nat} {I : Nat → Nat → Int32} {J : Nat → Nat → Int64} {av : List Value} : FrameBlind (va_Pc av (Pu_ D cy L κ ln R I J)) := fun a U g mk q => by
  obtain ⟨q0, qP, qK, qN⟩ := q
  exact ⟨q0, qP, va_K.moved (u := U) (U := U.calling g mk a) (Vm.Alike.refl U.vm) qK, qN⟩
/-- words of a call: own names y by idx; y is found in class Cn -/
def Vw_ (own : String) (idx : Nat) (Cn : String) (y : MethodName) (cc : ByteArray) (nL : Nat) (ret : Option FieldType) (n : Nat) : Prop := Cond.methodLink own idx y ∈ GT ∧ Cond.instanceMethod y ∈ GT ∧ Cond.selects Cn y y ∈ GT ∧ Cond.initialized Cn ∈ GT ∧ Cond.code y cc nL ret ∈ GT ∧ (y.cls = Cn ∧ y.cls ≠ "java/lang/invoke/MethodHandle" ∧ y.cls ≠ "java/lang/invoke/VarHandle" ∧ (parseMethodDescriptor y.desc).map (fun d => d.parameters.length) = some n)
def Sw_ (own : String) (idx : Nat) (y : MethodName) (cc : ByteArray) (nL : Nat) (ret : Option FieldType) (n : Nat) : Prop := Cond.methodLink own idx y ∈ GT ∧ Cond.static y ∈ GT ∧ Cond.initialized y.cls ∈ GT ∧ Cond.code y cc nL ret ∈ GT ∧ (y.cls ≠ "java/lang/invoke/MethodHandle" ∧ y.cls ≠ "java/lang/invoke/VarHandle" ∧ (parseMethodDescriptor y.desc).map (fun d => d.parameters.length) = some n)
theorem gi_V {own : String} {idx : Nat} {Cn : String} {y : MethodName} {cc : ByteArray} {nL : Nat} {ret : Option FieldType} {n : Nat} (h : Vw_ own idx Cn y cc nL ret n) : GoodIn GT (wsV own idx Cn y (Cond.code y cc nL ret :: GT)) := by
  intro w hw
  have : w ∈ GT := by
    simp only [wsV, List.mem_append, List.mem_cons, List.not_mem_nil, or_false] at hw
    rcases hw with (e | e | e | e) | e | e
    · exact e ▸ h.1
    · exact e ▸ h.2.1
    · exact e ▸ h.2.2.1
    · exact e ▸ h.2.2.2.1
    · exact e ▸ h.2.2.2.2.1
    · exact e
  exact ⟨this, gt_good this⟩
theorem gi_S {own : String} {idx : Nat} {y : MethodName} {cc : ByteArray} {nL : Nat} {ret : Option FieldType} {n : Nat} (h : Sw_ own idx y cc nL ret n) : GoodIn GT (va_wsS own idx y (Cond.code y cc nL ret :: GT)) := by
  intro w hw
  have : w ∈ GT := by
    simp only [va_wsS, List.mem_append, List.mem_cons, List.not_mem_nil, or_false] at hw
    rcases hw with (e | e | e) | e | e
    · exact e ▸ h.1
    · exact e ▸ h.2.1
    · exact e ▸ h.2.2.1
    · exact e ▸ h.2.2.2.1
    · exact e
  exact ⟨this, gt_good this⟩
section GC
variable {p : Program} {l : Launch} {e : Env} {Rm : Room} {s : State} {m : MethodId} {args : Array Value} {below : List Frame} {meth : Method} {c : Code} {cells slots : Nat} {Q : State → Prop}
variable {cc : ByteArray} {pc nL : Nat} {own : String} {D : va_G} {cy : Nat → ClassId} {A : Nat → Prop} {H0 : Heap} {L : List Nat} {κ ln : Nat → Nat} {R : Nat → Nat → Option Nat} {I : Nat → Nat → Int32} {J : Nat → Nat → Int64} {lo lo2 : List (Nat × Value)} {st : List Value}
variable {y : MethodName} {cc2 : ByteArray} {nL2 : Nat} {ret : Option FieldType} {rm : Room} {As : List Value} {b ci idx n N : Nat} {Cn : String} {T : u_T}
theorem g_callVI (C : CallFix p m c cc nL s args GT own) (K : Wc_ D cy A L s) {post : Int32 → (Nat → Nat → Int32) → (Nat → Nat → Int64) → Prop} (hM : CtI l y cc2 nL2 ret rm D cy L κ ln R I J (.ref b :: As) post) (hb9 : b ∈ L) (hkb : κ b = ci) (hci : ci < 13) (hcl : vwCl[ci]? = some (Cn, T, N)) (hw : Vw_ own idx Cn y cc2 nL2 ret n) (hn : As.length = n) (hr0 : rm.cells = 0 ∧ rm.slots = 0) (hrm : rm.frames + 1 ≤ Rm.frames ∧ 8 + (nL2 + 11) + rm.locals ≤ Rm.locals) (hcat : (st.map fun v => v.category).sum ≤ 8) (hcs : cells + 0 ≤ Rm.cells ∧ slots + 0 ≤ Rm.slots) (hd : decode cc pc = .ok (.invokevirtual idx, 3)) {st0 : List Value} (hst : st0 = As.reverse ++ .ref b :: st)
    (kk : ∀ (r : Int32) (I2 : Nat → Nat → Int32) (J2 : Nat → Nat → Int64), post r I2 J2 → WG p l e Rm s m args below meth c nL cells slots Q D cy A H0 L κ ln R I2 J2 (pc + 3) lo (.int r :: st)) : WG p l e Rm s m args below meth c nL cells slots Q D cy A H0 L κ ln R I J pc lo st0 := by
  intro H locs ls hP hS hl
  subst hst
  obtain ⟨q, hq⟩ := pl_at (f := cel_ cy κ ln R I J) hb9
  rw [cel_o hkb hci] at hq
  refine va_calli (va_runV (As := As) (rest := st) C hM (cwV n C.2.2.2.2 (gi_V hw) rfl hr0.1 hr0.2 hw.2.2.2.2.2 hrm) ⟨Pu_blind, va_recv K.2.2 hP hcl hq, fun U hU hW => ⟨rfl, by rw [hU]; exact hP, va_K.moved hW.alike K.2.2, K.1⟩⟩ rfl hn hl.1 rfl (lv_room hcat) hd hcs) hS (fun q _ h => K.2.1 q h) (fun q h => K.2.1 q h) (fun r u t H1 locs1 ht hvm hw1 hB hz1 hk1 hS1 => ?_)
  obtain ⟨hP1, -, -⟩ := hB
  rw [ht] at hP1
  exact kk r u.1 u.2 hw1 H1 locs1 ls hP1 hS1 hl
theorem g_callSI (C : CallFix p m c cc nL s args GT own) (K : Wc_ D cy A L s) {post : Int32 → (Nat → Nat → Int32) → (Nat → Nat → Int64) → Prop} (hM : CtI l y cc2 nL2 ret rm D cy L κ ln R I J As post) (hw : Sw_ own idx y cc2 nL2 ret n) (hn : As.length = n) (hr0 : rm.cells = 0 ∧ rm.slots = 0) (hrm : rm.frames + 1 ≤ Rm.frames ∧ 8 + (nL2 + 11) + rm.locals ≤ Rm.locals) (hcat : (st.map fun v => v.category).sum ≤ 8) (hcs : cells + 0 ≤ Rm.cells ∧ slots + 0 ≤ Rm.slots) (hd : decode cc pc = .ok (.invokestatic idx, 3)) {st0 : List Value} (hst : st0 = As.reverse ++ st)
    (kk : ∀ (r : Int32) (I2 : Nat → Nat → Int32) (J2 : Nat → Nat → Int64), post r I2 J2 → WG p l e Rm s m args below meth c nL cells slots Q D cy A H0 L κ ln R I2 J2 (pc + 3) lo (.int r :: st)) : WG p l e Rm s m args below meth c nL cells slots Q D cy A H0 L κ ln R I J pc lo st0 := by
  intro H locs ls hP hS hl
  subst hst
  refine va_calli (va_runS (As := As) (rest := st) C hM (va_cwS n C.2.2.2.2 (gi_S hw) rfl hr0.1 hr0.2 hw.2.2.2.2 hrm) ⟨Pu_blind, fun U hU hW => ⟨rfl, by rw [hU]; exact hP, va_K.moved hW.alike K.2.2, K.1⟩⟩ rfl hn hl.1 rfl (lv_room hcat) hd hcs) hS (fun q _ h => K.2.1 q h) (fun q h => K.2.1 q h) (fun r u t H1 locs1 ht hvm hw1 hB hz1 hk1 hS1 => ?_)
  obtain ⟨hP1, -, -⟩ := hB
  rw [ht] at hP1
  exact kk r u.1 u.2 hw1 H1 locs1 ls hP1 hS1 hl
theorem g_callVL (C : CallFix p m c cc nL s args GT own) (K : Wc_ D cy A L s) {post : Int64 → (Nat → Nat → Int32) → (Nat → Nat → Int64) → Prop} (hM : CtL l y cc2 nL2 ret rm D cy L κ ln R I J (.ref b :: As) post) (hb9 : b ∈ L) (hkb : κ b = ci) (hci : ci < 13) (hcl : vwCl[ci]? = some (Cn, T, N)) (hw : Vw_ own idx Cn y cc2 nL2 ret n) (hn : As.length = n) (hr0 : rm.cells = 0 ∧ rm.slots = 0) (hrm : rm.frames + 1 ≤ Rm.frames ∧ 8 + (nL2 + 11) + rm.locals ≤ Rm.locals) (hcat : (st.map fun v => v.category).sum ≤ 8) (hcs : cells + 0 ≤ Rm.cells ∧ slots + 0 ≤ Rm.slots) (hd : decode cc pc = .ok (.invokevirtual idx, 3)) {st0 : List Value} (hst : st0 = As.reverse ++ .ref b :: st)
    (kk : ∀ (r : Int64) (I2 : Nat → Nat → Int32) (J2 : Nat → Nat → Int64), post r I2 J2 → WG p l e Rm s m args below meth c nL cells slots Q D cy A H0 L κ ln R I2 J2 (pc + 3) lo (.long r :: st)) : WG p l e Rm s m args below meth c nL cells slots Q D cy A H0 L κ ln R I J pc lo st0 := by
  intro H locs ls hP hS hl
  subst hst
  obtain ⟨q, hq⟩ := pl_at (f := cel_ cy κ ln R I J) hb9
  rw [cel_o hkb hci] at hq
  refine va_calll (va_runV (As := As) (rest := st) C hM (cwV n C.2.2.2.2 (gi_V hw) rfl hr0.1 hr0.2 hw.2.2.2.2.2 hrm) ⟨Pu_blind, va_recv K.2.2 hP hcl hq, fun U hU hW => ⟨rfl, by rw [hU]; exact hP, va_K.moved hW.alike K.2.2, K.1⟩⟩ rfl hn hl.1 rfl (lv_room hcat) hd hcs) hS (fun q _ h => K.2.1 q h) (fun q h => K.2.1 q h) (fun r u t H1 locs1 ht hvm hw1 hB hz1 hk1 hS1 => ?_)
  obtain ⟨hP1, -, -⟩ := hB
  rw [ht] at hP1
  exact kk r u.1 u.2 hw1 H1 locs1 ls hP1 hS1 hl
theorem g_callSL (C : CallFix p m c cc nL s args GT own) (K : Wc_ D cy A L s) {post : Int64 → (Nat → Nat → Int32) → (Nat → Nat → Int64) → Prop} (hM : CtL l y cc2 nL2 ret rm D cy L κ ln R I J As post) (hw : Sw_ own idx y cc2 nL2 ret n) (hn : As.length = n) (hr0 : rm.cells = 0 ∧ rm.slots = 0) (hrm : rm.frames + 1 ≤ Rm.frames ∧ 8 + (nL2 + 11) + rm.locals ≤ Rm.locals) (hcat : (st.map fun v => v.category).sum ≤ 8) (hcs : cells + 0 ≤ Rm.cells ∧ slots + 0 ≤ Rm.slots) (hd : decode cc pc = .ok (.invokestatic idx, 3)) {st0 : List Value} (hst : st0 = As.reverse ++ st)
    (kk : ∀ (r : Int64) (I2 : Nat → Nat → Int32) (J2 : Nat → Nat → Int64), post r I2 J2 → WG p l e Rm s m args below meth c nL cells slots Q D cy A H0 L κ ln R I2 J2 (pc + 3) lo (.long r :: st)) : WG p l e Rm s m args below meth c nL cells slots Q D cy A H0 L κ ln R I J pc lo st0 := by
  intro H locs ls hP hS hl
  subst hst
  refine va_calll (va_runS (As := As) (rest := st) C hM (va_cwS n C.2.2.2.2 (gi_S hw) rfl hr0.1 hr0.2 hw.2.2.2.2 hrm) ⟨Pu_blind, fun U hU hW => ⟨rfl, by rw [hU]; exact hP, va_K.moved hW.alike K.2.2, K.1⟩⟩ rfl hn hl.1 rfl (lv_room hcat) hd hcs) hS (fun q _ h => K.2.1 q h) (fun q h => K.2.1 q h) (fun r u t H1 locs1 ht hvm hw1 hB hz1 hk1 hS1 => ?_)
  obtain ⟨hP1, -, -⟩ := hB
  rw [ht] at hP1
  exact kk r u.1 u.2 hw1 H1 locs1 ls hP1 hS1 hl
theorem g_callVV (C : CallFix p m c cc nL s args GT own) (K : Wc_ D cy A L s) {post : (Nat → Nat → Int32) → (Nat → Nat → Int64) → Prop} (hM : CtV l y cc2 nL2 ret rm D cy L κ ln R I J (.ref b :: As) post) (hb9 : b ∈ L) (hkb : κ b = ci) (hci : ci < 13) (hcl : vwCl[ci]? = some (Cn, T, N)) (hw : Vw_ own idx Cn y cc2 nL2 ret n) (hn : As.length = n) (hr0 : rm.cells = 0 ∧ rm.slots = 0) (hrm : rm.frames + 1 ≤ Rm.frames ∧ 8 + (nL2 + 11) + rm.locals ≤ Rm.locals) (hcat : (st.map fun v => v.category).sum ≤ 8) (hcs : cells + 0 ≤ Rm.cells ∧ slots + 0 ≤ Rm.slots) (hd : decode cc pc = .ok (.invokevirtual idx, 3)) {st0 : List Value} (hst : st0 = As.reverse ++ .ref b :: st)
    (kk : ∀ (I2 : Nat → Nat → Int32) (J2 : Nat → Nat → Int64), post I2 J2 → WG p l e Rm s m args below meth c nL cells slots Q D cy A H0 L κ ln R I2 J2 (pc + 3) lo (st)) : WG p l e Rm s m args below meth c nL cells slots Q D cy A H0 L κ ln R I J pc lo st0 := by
  intro H locs ls hP hS hl
  subst hst
  obtain ⟨q, hq⟩ := pl_at (f := cel_ cy κ ln R I J) hb9
  rw [cel_o hkb hci] at hq
  refine va_callv (va_runV (As := As) (rest := st) C hM (cwV n C.2.2.2.2 (gi_V hw) rfl hr0.1 hr0.2 hw.2.2.2.2.2 hrm) ⟨Pu_blind, va_recv K.2.2 hP hcl hq, fun U hU hW => ⟨rfl, by rw [hU]; exact hP, va_K.moved hW.alike K.2.2, K.1⟩⟩ rfl hn hl.1 rfl (lv_room hcat) hd hcs) hS (fun q _ h => K.2.1 q h) (fun q h => K.2.1 q h) (fun u t H1 locs1 ht hvm hw1 hB hz1 hk1 hS1 => ?_)
  obtain ⟨hP1, -, -⟩ := hB
  rw [ht] at hP1
  exact kk u.1 u.2 hw1 H1 locs1 ls hP1 hS1 hl
theorem g_callSV (C : CallFix p m c cc nL s args GT own) (K : Wc_ D cy A L s) {post : (Nat → Nat → Int32) → (Nat → Nat → Int64) → Prop} (hM : CtV l y cc2 nL2 ret rm D cy L κ ln R I J As post) (hw : Sw_ own idx y cc2 nL2 ret n) (hn : As.length = n) (hr0 : rm.cells = 0 ∧ rm.slots = 0) (hrm : rm.frames + 1 ≤ Rm.frames ∧ 8 + (nL2 + 11) + rm.locals ≤ Rm.locals) (hcat : (st.map fun v => v.category).sum ≤ 8) (hcs : cells + 0 ≤ Rm.cells ∧ slots + 0 ≤ Rm.slots) (hd : decode cc pc = .ok (.invokestatic idx, 3)) {st0 : List Value} (hst : st0 = As.reverse ++ st)
    (kk : ∀ (I2 : Nat → Nat → Int32) (J2 : Nat → Nat → Int64), post I2 J2 → WG p l e Rm s m args below meth c nL cells slots Q D cy A H0 L κ ln R I2 J2 (pc + 3) lo (st)) : WG p l e Rm s m args below meth c nL cells slots Q D cy A H0 L κ ln R I J pc lo st0 := by
  intro H locs ls hP hS hl
  subst hst
  refine va_callv (va_runS (As := As) (rest := st) C hM (va_cwS n C.2.2.2.2 (gi_S hw) rfl hr0.1 hr0.2 hw.2.2.2.2 hrm) ⟨Pu_blind, fun U hU hW => ⟨rfl, by rw [hU]; exact hP, va_K.moved hW.alike K.2.2, K.1⟩⟩ rfl hn hl.1 rfl (lv_room hcat) hd hcs) hS (fun q _ h => K.2.1 q h) (fun q h => K.2.1 q h) (fun u t H1 locs1 ht hvm hw1 hB hz1 hk1 hS1 => ?_)
  obtain ⟨hP1, -, -⟩ := hB
  rw [ht] at hP1
  exact kk u.1 u.2 hw1 H1 locs1 ls hP1 hS1 hl
theorem g_zret {post : Int32 → (Nat → Nat → Int32) → (Nat → Nat → Int64) → Prop} {ty : FieldType} {r : Int32} (B : Bd_ p s m args meth c cc nL y ret) (K : Wc_ D cy (Al_ L) L s) (hrt : ret = some ty) (hn : narrow ty (.int r) = .int r) (hp : post r I J) (hd : decode cc pc = .ok (.ireturn, 1)) : WG p l e Rm s m args below meth c nL 0 0 (MQ below (Qi_ D cy L κ ln R post) args s 0 0 (Al_ L)) D cy (Al_ L) s.heap L κ ln R I J pc lo [.int r] := by
  intro H locs ls hP hS hl
  exact W.zret (v := r) B.1.1 B.1.2.1 (B.2.1.trans hrt) hn (fun t ht hW => ⟨⟨r, (I, J), rfl, hp, by rw [ht]; exact hP, va_K.moved hW.alike K.2.2, K.1⟩, hS.F ht⟩) hS.2.2 hd (hlocks := B.2.2.1)
theorem g_lret {post : Int64 → (Nat → Nat → Int32) → (Nat → Nat → Int64) → Prop} {r : Int64} (B : Bd_ p s m args meth c cc nL y ret) (K : Wc_ D cy (Al_ L) L s) (hrt : ret = some .long) (hp : post r I J) (hd : decode cc pc = .ok (.lreturn, 1)) : WG p l e Rm s m args below meth c nL 0 0 (MQ below (Ql_ D cy L κ ln R post) args s 0 0 (Al_ L)) D cy (Al_ L) s.heap L κ ln R I J pc lo [.long r] := by
  intro H locs ls hP hS hl
  exact W.lret (v := r) B.1.1 B.1.2.1 (B.2.1.trans hrt) (fun t ht hW => ⟨⟨r, (I, J), rfl, hp, by rw [ht]; exact hP, va_K.moved hW.alike K.2.2, K.1⟩, hS.F ht⟩) hS.2.2 hd (hlocks := B.2.2.1)
theorem g_vret {post : (Nat → Nat → Int32) → (Nat → Nat → Int64) → Prop} (B : Bd_ p s m args meth c cc nL y ret) (K : Wc_ D cy (Al_ L) L s) (hrt : ret = none) (hp : post I J) (hd : decode cc pc = .ok (.return_, 1)) : WG p l e Rm s m args below meth c nL 0 0 (MQ below (Qv_ D cy L κ ln R post) args s 0 0 (Al_ L)) D cy (Al_ L) s.heap L κ ln R I J pc lo [] := by
  intro H locs ls hP hS hl
  exact W.vret B.1.1 B.1.2.1 (B.2.1.trans hrt) (fun t ht hW => ⟨⟨(I, J), rfl, hp, by rw [ht]; exact hP, va_K.moved hW.alike K.2.2, K.1⟩, hS.F ht⟩) hS.2.2 hd (hlocks := B.2.2.1)
end GC
