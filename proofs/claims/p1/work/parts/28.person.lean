theorem dL_person_0 : decode cL_person 0 = .ok (.aload_n 3, 1) := by decide +kernel
theorem dL_person_1 : decode cL_person 1 = .ok (.iconst 0, 1) := by decide +kernel
theorem dL_person_2 : decode cL_person 2 = .ok (.aload_n 0, 1) := by decide +kernel
theorem dL_person_3 : decode cL_person 3 = .ok (.iload_n 1, 1) := by decide +kernel
theorem dL_person_4 : decode cL_person 4 = .ok (.iload_n 2, 1) := by decide +kernel
theorem dL_person_5 : decode cL_person 5 = .ok (.invokevirtual 7, 3) := by decide +kernel
theorem dL_person_13 : decode cL_person 13 = .ok (.astore 4, 2) := by decide +kernel
theorem dL_person_15 : decode cL_person 15 = .ok (.iconst 1, 1) := by decide +kernel
theorem dL_person_16 : decode cL_person 16 = .ok (.ireturn, 1) := by decide +kernel
theorem dX11_person_0 : decode cX11_person 0 = .ok (.aload_n 0, 1) := by decide +kernel
theorem dX11_person_1 : decode cX11_person 1 = .ok (.getfield 19, 3) := by decide +kernel
theorem dX11_person_4 : decode cX11_person 4 = .ok (.iload_n 1, 1) := by decide +kernel
theorem dX11_person_5 : decode cX11_person 5 = .ok (.invokevirtual 133, 3) := by decide +kernel
theorem dX11_person_8 : decode cX11_person 8 = .ok (.ifCond .ne 13, 3) := by decide +kernel
theorem dX11_person_11 : decode cX11_person 11 = .ok (.new 137, 3) := by decide +kernel
theorem dX11_person_14 : decode cX11_person 14 = .ok (.dup, 1) := by decide +kernel
theorem dX11_person_15 : decode cX11_person 15 = .ok (.ldc 139, 2) := by decide +kernel
theorem dX11_person_17 : decode cX11_person 17 = .ok (.invokespecial 141, 3) := by decide +kernel
theorem dX11_person_20 : decode cX11_person 20 = .ok (.athrow, 1) := by decide +kernel
section VXK
variable {p : Program} {l : Launch} {e : Env} {R : Room} {s : State} {m : MethodId} {args : Array Value} {below : List Frame} {meth : Method} {c : Code} {H : Heap} {locs : List Loc} {cells slots : Nat} {Q : State → Prop} {pc : Nat} {ls : Array Slot} {rest : List Value}
theorem vx_catch {own name : String} {E : String} {ce : Cell} {q : Addr} (hown : s.vm.findClass own = some m.cls) (pre : List ExceptionTableEntry) (x : ExceptionTableEntry) (suf : List ExceptionTableEntry) (hsplit : c.exceptionTable.toList = pre ++ x :: suf)
    (hpass : ∀ z ∈ pre, covers z pc = false ∨ (z.catchType ≠ 0 ∧ ∃ nm : String, (Cond.classLink own z.catchType nm).before args s = true ∧ va_Nc E nm s)) (hx : covers x pc = true) (h0 : x.catchType ≠ 0)
    (hlink : (Cond.classLink own x.catchType name).before args s = true) (hcast : (Cond.castable E name).before args s = true) (hcell : H[q]? = some ce) (hv : ce.vm = .none) (hcl : s.vm.findClass E = some ce.cls)
    (kk : W p l e R s m args below meth c H locs cells slots Q (F0 m x.handlerPc ls [.ref q])) : vx_W p l e R s m args below meth c H locs cells slots Q (F0 m pc ls rest) q := by
  intro T hT X
  have hpl : e.platform.magicAccessors = ({} : Platform).magicAccessors := by rw [X.admits.platform]
  obtain ⟨c3, c4, hc3, hc4, hasg⟩ := Cond.castable_spec hcast
  cases Option.some.inj (hc3.symm.trans hcl)
  obtain ⟨c5, hc5, hcl5⟩ := Cond.classLink_spec hown hlink e.platform hpl
  cases Option.some.inj (hc4.symm.trans hc5)
  obtain ⟨vm', X', st⟩ := Jvm.Stand.thenCaughtThrough X q (g := F0 m pc ls rest) rfl (Steps.refl _) (by rw [hT]; exact hcell) (by rw [hv]; rfl) (by obtain ⟨k9, h9, -⟩ := Vm.findClass_spec hcl; exact ⟨k9, h9⟩) pre x suf hsplit
    (fun z hz => by
      rcases hpass z hz with h | ⟨hz0, nm, hl1, hn1⟩
      · exact Or.inl h
      · obtain ⟨c6, hc6, hcl6⟩ := Cond.classLink_spec hown hl1 e.platform hpl
        obtain ⟨a8, b8, h1, h2, h3⟩ := hn1
        cases Option.some.inj (h1.symm.trans hcl)
        cases Option.some.inj (h2.symm.trans hc6)
        exact Or.inr ⟨hz0, _, hcl6, h3⟩) hx (Or.inr ⟨h0, c4, hcl5, hasg⟩)
  obtain ⟨t, a1, b1⟩ := kk (T.setVm vm') hT X'
  exact ⟨t, st.trans a1, b1⟩
end VXK
/-! 'throw new E("text")' where E's constructor hands on by a link of another number than 7: after the library's row of the same throw (ownAtoms), over its chain with a number of its own (Bundle.chainSX). -/
section VXT
variable {p : Program} {l : Launch} {e : Env} {R : Room} {s : State} {m₀ : MethodId} {args : Array Value} {below : List Frame} {meth : Method} {c : Code} {W : State} {locs : List Loc} {cells slots : Nat}
set_option maxHeartbeats 1000000 in
theorem xs_ctor (X : Stand p l e R s m₀ args below meth c W locs cells slots) (hexec : p.tables.exec = Jvm.exec) (htr : e.platform.stackTraces = false) {own cls : String} {names : List String} {ic : Nat}
    {ix : Nat} {rx : ByteArray} (x0 : decode rx 0 = .ok (.aload_n 0, 1)) (x1 : decode rx 1 = .ok (.aload_n 1, 1)) (x2 : decode rx 2 = .ok (.invokespecial ix, 3)) (x5 : decode rx 5 = .ok (.return_, 1))
    (hown : s.vm.findClass own = some m₀.cls) (hcls : Bundle.fit cls = true) (hnames : ∀ n ∈ names, Bundle.fit n = true)
    (h : ∀ a ∈ Bundle.ownAtomsX own ic cls ix rx names, a.before args s = true)
    (hlocs : ∀ x ∈ locs, ∀ cell, s.heap[x.base]? = some cell → cell.vm.isStatics = false)
    {a : Addr} {cX : ClassId} {kX : Class} (hfX : s.vm.findClass cls = some cX) (hkX : s.vm.classes[cX]? = some kX) (hcell : W.heap[a]? = some (freshCell cX kX)) (hnew : s.heap.size ≤ a)
    {msg : Value} (hmsg : msg.isRef = true)
    {g : JFrame} (hg : g.method = m₀) (hsize : g.locals.size = c.maxLocals) (hlocked : g.locked = none) (hentered : g.entered = []) {rest : List Value} (hstack : g.stack = msg :: .ref a :: .ref a :: rest)
    (hd6 : decode c.code g.pc = .ok (.invokespecial ic, 3)) (hd9 : decode c.code (g.pc + 3) = .ok (.athrow, 1)) (hout : ∀ x ∈ c.exceptionTable.toList, covers x (g.pc + 3) = false)
    (hRf : names.length + 3 < R.frames) (hRl : 2 * g.monitorRoom + ((Value.ref a :: rest).map fun v => v.category).sum + (13 * (names.length + 1) + 42) ≤ R.locals) (hlocks : meth.locks = false) :
    ∃ U : State, Steps p.tables e below (W.setTop g) U ∧ U.status = .running ∧ Ended U below (.threw a) ∧ s.WarmedH U.vm ∧ s.sameButNew ({ U with vm := s.vm } : State) locs cells slots ∧
      ∃ ce, U.heap[a]? = some ce ∧ ce.cls = cX ∧ ce.vm = .none := by
  have q1 : e.platform.frameOwnsMonitors = true := by rw [X.admits.platform]
  have q2 : e.platform.finalization = false := by rw [X.admits.platform]
  have hpl : e.platform.magicAccessors = ({} : Platform).magicAccessors := by rw [X.admits.platform]
  have o : ∀ x, x ∈ Bundle.ownAtomsX own ic cls ix rx names → x.holds args s none s [] = true := fun x hx => h x hx
  obtain ⟨T, Z0, L, -, Y⟩ := ThrowableC.of_atoms (args := args) q1 q2 hpl (fun x hx => h x (by simp [Bundle.ownAtomsX, hx]))
  obtain ⟨Z, M, LZ, LM, hnZ⟩ := Init0T.ofS_atoms (args := args) hpl L Y (fun x hx => h x (by simp [Bundle.ownAtomsX, hx]))
  obtain ⟨P1, Ps, hlen, L1, hL, hP1, hl1, hl2⟩ := Bundle.chainSX (args := args) hpl hnZ x0 x1 x2 x5 names cls hcls hnames (fun x hx => h x (by simp [Bundle.ownAtomsX, hx]))
  have hf : s.vm.findClass cls = some P1.m.cls := findClass_of_methodNamed hP1
  cases Option.some.inj (hfX.symm.trans hf)
  obtain ⟨c1, k1, hc1, hk, hord, -, -, -⟩ := Cond.instantiable_spec (o (.instantiable cls 6) (by simp [Bundle.ownAtomsX]))
  cases Option.some.inj (hc1.symm.trans hf)
  cases Option.some.inj (hkX.symm.trans hk)
  have hs0 : selectMethod e.platform s.vm P1.m.cls T.fill0 = .method T.fill0 := by
    obtain ⟨c2, r2, m2, w1, w2, w3, w4, -⟩ := Cond.selects_spec (o (.selects cls Bundle.tFill0 Bundle.tFill0) (by simp [Bundle.ownAtomsX]))
    cases Option.some.inj (w1.symm.trans hf)
    cases Option.some.inj (w2.symm.trans (State.methodFound?_of_named Y.fill0 (by decide)))
    cases Option.some.inj (w3.symm.trans Y.fill0)
    rw [Launch.admits_selectMethod X.admits]; exact w4
  have hsF : selectMethod e.platform s.vm P1.m.cls T.fill = .method T.fill := by
    obtain ⟨c2, r2, m2, w1, w2, w3, w4, -⟩ := Cond.selects_spec (o (.selects cls Bundle.tFill Bundle.tFill) (by simp [Bundle.ownAtomsX]))
    cases Option.some.inj (w1.symm.trans hf)
    cases Option.some.inj (w2.symm.trans (State.methodFound?_of_named Y.fill (by decide)))
    cases Option.some.inj (w3.symm.trans Y.fill)
    rw [Launch.admits_selectMethod X.admits]; exact w4
  obtain ⟨z0, hz0, hzi⟩ := Y.statics
  obtain ⟨u0, hu0⟩ := Cond.staticRefV Y.unassigned L.unassignedStatic L.statics hz0 hzi (o (.isRef (.static Bundle.tN "UNASSIGNED_STACK" Bundle.steD)) (by simp [Bundle.ownAtomsX]))
  obtain ⟨sn, hsn⟩ := Cond.staticRefV Y.sentinel L.sentinelStatic L.statics hz0 hzi (o (.isRef (.static Bundle.tN "SUPPRESSED_SENTINEL" Bundle.listD)) (by simp [Bundle.ownAtomsX]))
  obtain ⟨ci, ib, fB, hb1, hb2, hb3, hsB, -, hnB, htB, hfB⟩ := Cond.ownField (t := .object "java/lang/Object") Y.found L.cls (by decide +kernel) (o (.fieldLink Bundle.tN 198 Bundle.tN "backtrace" "Ljava/lang/Object;") (by simp [Bundle.ownAtomsX])) (o (.lays Bundle.tN Bundle.tN "backtrace" "Ljava/lang/Object;") (by simp [Bundle.ownAtomsX])) e.platform hpl
  obtain ⟨zW, hzW, hzE, -, hkeep⟩ := X.same.2.2.2.2.2 T.aS z0 hz0
  have hcS : W.heap[T.aS]? = some zW := hzW
  have hno : ∀ i, (⟨T.aS, i⟩ : Loc) ∉ locs := fun i hm => by
    have w := hlocs _ hm z0 hz0
    rw [hzi] at w; cases w
  have hkn : zW.vm ≠ .unknown := by
    rw [hzE]; intro hu
    rw [show z0.vm = .unknown from hu] at hzi
    cases hzi
  have hne : T.aS ≠ a := Nat.ne_of_lt (Nat.lt_of_lt_of_le (Array.getElem?_eq_some_iff.mp hz0).1 hnew)
  obtain ⟨iM, hfM⟩ := Y.msg
  obtain ⟨tC, dC, hdC, hnC⟩ := Cond.laysAt hf hk Y.cause (o (.lays cls Bundle.tN "cause" "Ljava/lang/Throwable;") (by simp [Bundle.ownAtomsX]))
  obtain ⟨tS, dS, hdS, hnS⟩ := Cond.laysAt hf hk Y.stack (o (.lays cls Bundle.tN "stackTrace" Bundle.steD) (by simp [Bundle.ownAtomsX]))
  obtain ⟨tP, dP, hdP, hnP⟩ := Cond.laysAt hf hk Y.supp (o (.lays cls Bundle.tN "suppressedExceptions" Bundle.listD) (by simp [Bundle.ownAtomsX]))
  obtain ⟨tM, dM, hdM, hnM⟩ := Cond.laysAt hf hk hfM (o (.lays cls Bundle.tN "detailMessage" "Ljava/lang/String;") (by simp [Bundle.ownAtomsX]))
  obtain ⟨tB, dB, hdB, hnBk⟩ := Cond.laysAt hf hk hfB (o (.lays cls Bundle.tN "backtrace" "Ljava/lang/Object;") (by simp [Bundle.ownAtomsX]))
  have bC := Cond.laysApart hdB hdC hnBk hnC (by rw [hnB, Y.causeName]; decide)
  have bS := Cond.laysApart hdB hdS hnBk hnS (by rw [hnB, Y.stackName]; decide)
  have bP := Cond.laysApart hdB hdP hnBk hnP (by rw [hnB, Y.suppName]; decide)
  have hsk : SkipFacts T e.platform s (fun u => u) u0 ((preparedCellV T.toThrowableT (freshCell P1.m.cls kX) a u0 sn).withEntry W.cur) :=
    ⟨{ ci198 := ci, i198 := ib, fBack := fB }, ⟨hb1, hb2, hb3, hsB⟩, by
      have w := fresh_default (c := P1.m.cls) tB
      rw [htB] at w
      simpa [preparedCellV, Cell.setSlot, Cell.withEntry, Array.getElem?_setIfInBounds, bC, bS, bP, bC.symm, bS.symm, bP.symm, defaultValue] using w, fun _ _ => rfl⟩
  obtain ⟨tm, mC, cC, kC, v1, hnm, -, -, -, -, -, -, -, hW1, st1⟩ := Steps.initColdS (tb := p.tables) (e := e) (below := below) (s := s) (U := W) X.here hexec X.warmed hpl hown (t := Bundle.initS cls) rfl rfl (Bundle.fit_spec hcls).2
    (o (.methodLink own ic (Bundle.initS cls)) (by simp [Bundle.ownAtomsX])) (h (.instanceMethod (Bundle.initS cls)) (by cases names <;> simp [Bundle.ownAtomsX, Bundle.chainSAtomsX, Bundle.passSAtoms])) (bytes := rx) (maxL := 2) (h (.code (Bundle.initS cls) rx 2 none) (by cases names <;> simp [Bundle.ownAtomsX, Bundle.chainSAtomsX, Bundle.passSAtoms]))
    (f := g) hg (a := a) (msg := msg) (rest := .ref a :: rest) hstack hd6
  cases Option.some.inj (hnm.symm.trans hP1)
  have X1 := X.noted hW1
  obtain ⟨v2, X2, st2⟩ := X1.ctorMessageOffV hexec (g := { g with stack := .ref a :: rest }) hg hsize T L Z LZ M LM (P1 :: Ps)
    (fun P hP => by rcases List.mem_cons.mp hP with rfl | hP; exact L1; exact hL P hP) ⟨hl1, hl2⟩ (u0 := u0) (sen := sn) (self := a) hmsg (cell := freshCell P1.m.cls kX) (cellS := zW)
    hcell (fun _ => by simp) (by simp) rfl rfl hs0 hsF hcS hne hkn (by rw [hkeep _ (hno _)]; exact hu0) (by rw [hkeep _ (hno _)]; exact hsn)
    (Takes.of_laid hk hord tC (by rw [Y.causeType]; rfl)) (Takes.of_laid hk hord tS (by rw [Y.stackType]; exact fits_refV_array _ u0)) (Takes.of_laid hk hord tP (by rw [Y.suppType]; exact fits_refV_object _ sn))
    (Takes.of_laid hk hord tM (by rw [Y.msgType]; exact fits_refV_object _ ⟨msg, hmsg⟩)) Y.objLocals hsk htr [] hd6
    (by simp only [List.length_cons, hlen]; omega) (by simp only [List.length_cons, hlen]; exact hRl)
  obtain ⟨hwk, hrun, hend, hWU, hsame⟩ := X2.athrowLeaves hexec (g := { g with stack := .ref a :: rest, pc := g.pc + 3 }) hg hlocked hentered hout (a := a) (rest := rest) rfl hd9
  have hlt : a < ((W.setVm v1).setVm v2).heap.size := (Array.getElem?_eq_some_iff.mp hcell).1
  have hU := heapAt_setCell_self (s := (W.setVm v1).setVm v2) (plainBareV T.toThrowableT (freshCell P1.m.cls kX) a u0 sn msg) hlt
  refine ⟨_, st1 _ (fun acts => ?_), hrun, hend, hWU, hsame.weaken (fun y hy hy' => ?_) (Nat.le_refl _) (Nat.le_refl _), _, hU, rfl, rfl⟩
  · rw [doInvoke_state]
    exact st2 _ hwk
  · rcases List.mem_append.mp hy with h1 | h1
    · exact h1
    · exfalso
      have hb : y.base = a := by
        simp only [List.mem_cons, List.not_mem_nil, or_false] at h1
        rcases h1 with rfl | rfl | rfl | rfl | rfl <;> rfl
      rw [hb] at hy'
      exact Nat.not_lt.mpr hnew hy'

end VXT
section VXU

variable {p : Program} {l : Launch} {e : Env} {R : Room} {s : State} {m : MethodId} {args : Array Value} {below : List Frame} {meth : Method} {c : Code} {H : Heap} {locs : List Loc} {cells slots : Nat} {Q : State → Prop}
variable {mc ms : Nat} {free : Addr → Prop} {A0 A1 : Nat → Prop} {H0 : Heap} {a : Array Value} {ls : Array Slot} {st0 rest : List Value}
variable {Qc : Array Value → State → Outcome → State → Prop} {XC : String → State → State → Prop}
def xs_at (own : String) (ic : Nat) (X : String) (ix : Nat) (rx : ByteArray) (names : List String) : List Cond := (Bundle.ownAtomsX own ic X ix rx names).filter vx_no
theorem xs_throw {cc : ByteArray} {pc : Nat} (hexec : p.tables.exec = Jvm.exec) (hb : c.code = cc) (hl : l.stackTraces = false) {own cls text : String} {names : List String} {ik is ic ix mc ms sa : Nat} {rx : ByteArray} (x0 : decode rx 0 = .ok (.aload_n 0, 1)) (x1 : decode rx 1 = .ok (.aload_n 1, 1)) (x2 : decode rx 2 = .ok (.invokespecial ix, 3)) (x5 : decode rx 5 = .ok (.return_, 1)) {A : Nat → Prop}
    (hown : s.vm.findClass own = some m.cls) (hcls : Bundle.fit cls = true) (hnames : ∀ n ∈ names, Bundle.fit n = true)
    (hk : (Cond.classLink own ik cls).before args s = true) (hini : (Cond.initialized cls).before args s = true) (hstr : vk_R own is text sa s) (hat : ∀ w ∈ xs_at own ic cls ix rx names, w.before args s = true)
    (hgood : ∀ w ∈ Cond.classLink own ik cls :: Cond.initialized cls :: xs_at own ic cls ix rx names, vx_ot w = true)
    (hU : vx_Zq Bundle.tN "UNASSIGNED_STACK" Bundle.steD A s s.heap) (hN : vx_Zq Bundle.tN "SUPPRESSED_SENTINEL" Bundle.listD A s s.heap) (hS : va_S A s.heap H locs) (hsize : ls.size = c.maxLocals)
    (d0 : decode cc pc = .ok (.new ik, 3)) (d3 : decode cc (pc + 3) = .ok (.dup, 1)) (d4 : decode cc (pc + 4) = .ok (.ldc is, 2)) (d6 : decode cc (pc + 6) = .ok (.invokespecial ic, 3)) (d9 : decode cc (pc + 9) = .ok (.athrow, 1))
    (hout : ∀ x ∈ c.exceptionTable.toList, covers x (pc + 9) = false)
    (hRframes : names.length + 3 < R.frames) (hRlocals : (rest.map fun v => v.category).sum + (13 * (names.length + 1) + 43) ≤ R.locals) (hRcells : cells + 1 ≤ R.cells) (hRslots : slots + 6 ≤ R.slots) (hlocks : meth.locks = false)
    (hx : ∀ t : State, s.vm.Alike t.vm → H.size ≤ t.heap.size → (∀ q : Nat, q < H.size → t.heap[q]? = H[q]?) → XC cls s t)
    (hf : ∀ z ∈ locs, free z.base) (hc : cells + 1 ≤ mc) (hs : slots + 6 ≤ ms) :
    W p l e R s m args below meth c H locs cells slots (vx_MQ below Qc XC args s mc ms free) (F0 m pc ls rest) := by
  intro T hT X
  have htr : e.platform.stackTraces = false := (show e.platform.stackTraces = l.stackTraces by rw [X.admits.platform]).trans hl
  have Y := vx_rebase X (R' := { frames := R.frames, locals := R.locals, cells := 1, slots := 6 }) (Nat.le_refl _) (Nat.le_refl _) hRcells hRslots
  obtain ⟨s', hA⟩ : ∃ z, z = (T.setVm s.vm).setFrames (.invoking m args :: below) := ⟨_, rfl⟩
  rw [← hA] at Y
  have hvm : s'.vm = s.vm := by rw [hA]; rfl
  have hhp : s'.heap = H := by rw [hA]; exact hT
  have hW0 : s.WarmedH s'.vm := by rw [hvm]; exact State.WarmedH.refl s
  have hat' : ∀ w ∈ xs_at own ic cls ix rx names, w.before args s' = true := fun w hw => vx_ot_at hW0 hvm.symm (hgood w (List.mem_cons_of_mem _ (List.mem_cons_of_mem _ hw))) (hat w hw)
  have hk' : (Cond.classLink own ik cls).before args s' = true := vx_ot_at hW0 hvm.symm (hgood _ List.mem_cons_self) hk
  have hini' : (Cond.initialized cls).before args s' = true := vx_ot_at hW0 hvm.symm (hgood _ (List.mem_cons_of_mem _ List.mem_cons_self)) hini
  have hU' : vx_Zq Bundle.tN "UNASSIGNED_STACK" Bundle.steD A s' s'.heap := by rw [hhp]; exact vx_Zq.moved hW0.alike (hU.kept hS.2.1)
  have hN' : vx_Zq Bundle.tN "SUPPRESSED_SENTINEL" Bundle.listD A s' s'.heap := by rw [hhp]; exact vx_Zq.moved hW0.alike (hN.kept hS.2.1)
  have h : ∀ w ∈ Bundle.ownAtomsX own ic cls ix rx names, w.before args s' = true := vx_own hat' (vx_isRefq hU'.1) (vx_isRefq hN'.1) hU'.2.word hN'.2.word
  have hown' : s'.vm.findClass own = some m.cls := by rw [hvm]; exact hown
  have hins : (Cond.instantiable cls 6).before args s' = true := h _ (by simp [Bundle.ownAtomsX])
  obtain ⟨vm₁, cX, kX, hfX, hkX, -, -, X₁, st1⟩ := Y.newCold hexec (own := own) (C := cls) (index := ik) (n := 6) hown' hk' hins hini'
    (g := F0 m pc ls rest) rfl (by rw [hb]; exact d0) (Nat.le_refl _) (Nat.le_refl _)
  generalize hT1 : (T.setVm vm₁).pushCell { cls := cX, slots := kX.instanceTypes.map defaultValue, vm := .none } = T1 at X₁ st1
  have hcat : (Value.ref T.heap.size).category = 1 := rfl
  have hcellA : T1.heap[T.heap.size]? = some (freshCell cX kX) := by rw [← hT1]; exact State.heap_pushCell_size _ _
  have d3' : decode c.code (pc + 3) = .ok (.dup, 1) := by rw [hb]; exact d3
  have d4' : decode c.code (pc + 4) = .ok (.ldc is, 2) := by rw [hb]; exact d4
  have hstr' : vk_R own is text sa s' := vk_R.warm hW0 hstr
  obtain ⟨U, hsteps, hrun, hend, hW, hsame, ce, hce, hO1, hO2⟩ := xs_ctor X₁ hexec htr x0 x1 x2 x5 (own := own) (cls := cls) (names := names) (ic := ic) hown' hcls hnames h (fun x hx => nomatch hx) hfX hkX hcellA (by rw [hhp, hT]; exact Nat.le_refl _) (msg := .ref sa) rfl
    (g := { method := m, pc := pc + 6, locals := ls, stack := .ref sa :: .ref T.heap.size :: .ref T.heap.size :: rest, locked := none }) rfl hsize rfl rfl (rest := rest) rfl
    (by rw [hb]; exact d6) (by rw [hb]; exact d9) hout hRframes (by simp only [List.map_cons, List.sum_cons, hcat]; omega) hlocks
  obtain ⟨f1, f2⟩ := vx_frame hsame
  rw [hhp] at f1 f2
  have hWs : s.WarmedH U.vm := State.WarmedH.trans hW0 hW
  have hcl : s.vm.findClass cls = some ce.cls := by rw [hO1, ← hvm]; exact hfX
  have hall : s.sameButNew ({ U with vm := s.vm } : State) locs mc ms := by
    subst hA
    obtain ⟨e1, e2⟩ := hsame
    rw [State.setFrames_setFrames] at e1
    have h2 : (T.setVm s.vm).sameButNew ({ U with vm := s.vm } : State) [] (0 + 1) (0 + 6) := ⟨e1, e2⟩
    have h3 := X.same.trans h2
    rw [List.append_nil] at h3
    exact h3.mono hc hs
  refine ⟨U, ?_, .threw T.heap.size, hrun, hend, Or.inr ⟨T.heap.size, rfl, cls, ce, locs, hx U hWs.alike f1 (fun q hq => f2 q hq (fun z hz => nomatch hz)), hce, hO2, hcl, hWs, hall, hf⟩⟩
  refine st1 _ ?_
  show Steps p.tables e below (T1.setTop { method := m, pc := pc + 3, locals := ls, stack := .ref T.heap.size :: rest, locked := none }) _
  jvm_step X₁.here [X₁.here.top, hexec, d3', Value.category]
  exact X₁.ldcString hexec (own := own) (text := text) (index := is) (a := sa) hown' hstr'.1 hstr'.2
    (g := { method := m, pc := pc + 4, locals := ls, stack := .ref T.heap.size :: .ref T.heap.size :: rest, locked := none }) rfl d4' _ hsteps
end VXU
def ns_ : String := "java/util/NoSuchElementException"
def np_ : String := "no such person"
/-- what a throw needs beside the pool: its text, the class, Throwable's statics -/
def Ep_ (sa : Nat) (A : Nat → Prop) (U : State) : Prop := vk_R RX11 139 np_ sa U ∧ (va_Nw (.castable ns_ ns_) U ∧ va_Nw (.declares (Bundle.initS "java/lang/RuntimeException")) U ∧ va_Nw (.declares (Bundle.initS "java/lang/Exception")) U ∧ va_Nw (.declares (Bundle.initS Bundle.tN)) U) ∧ vx_Zq Bundle.tN "UNASSIGNED_STACK" Bundle.steD A U U.heap ∧ vx_Zq Bundle.tN "SUPPRESSED_SENTINEL" Bundle.listD A U U.heap
theorem Ep_.go {sa : Nat} {A B : Nat → Prop} {s U : State} (h : Ep_ sa A s) (hW : s.WarmedH U.vm) (hq : ∀ a : Nat, a < s.heap.size → ¬ A a → U.heap[a]? = s.heap[a]?) (hB : ∀ q, B q → A q) : Ep_ sa B U := ⟨h.1.warm hW, ⟨h.2.1.1.warmC hW, h.2.1.2.1.warmD hW, h.2.1.2.2.1.warmD hW, h.2.1.2.2.2.warmD hW⟩, ((h.2.2.1.moved hW.alike).kept hq).narrow hB, ((h.2.2.2.moved hW.alike).kept hq).narrow hB⟩
theorem Ep_.same {sa : Nat} {A : Nat → Prop} {u U : State} (hv : u.vm = U.vm) (hh : u.heap = U.heap) (h : Ep_ sa A u) : Ep_ sa A U := by
  have ha : u.vm.Alike U.vm := by rw [hv]; exact Vm.Alike.refl _
  exact ⟨h.1.same hv.symm, ⟨h.2.1.1.same rfl hv, h.2.1.2.1.same rfl hv, h.2.1.2.2.1.same rfl hv, h.2.1.2.2.2.same rfl hv⟩, (h.2.2.1.moved ha).kept (fun a _ _ => by rw [hh]), (h.2.2.2.moved ha).kept (fun a _ _ => by rw [hh])⟩
def sx_ : ByteArray := ⟨#[0x2a, 0x2b, 0xb7, 0x00, 0x0d, 0xb1]⟩
set_option maxRecDepth 100000 in
theorem xg_1 : ∀ w ∈ (xs_at RX11 141 ns_ 13 sx_ ["java/lang/RuntimeException", "java/lang/Exception"]).filter goodWord, w ∈ GT := gt_all (by decide +kernel)
set_option maxRecDepth 100000 in
theorem xg_2 : ∀ w ∈ (xs_at RX11 141 ns_ 13 sx_ ["java/lang/RuntimeException", "java/lang/Exception"]).filter (fun w => !goodWord w), w ∈ [Cond.castable ns_ ns_, Cond.declares (Bundle.initS "java/lang/RuntimeException"), Cond.declares (Bundle.initS "java/lang/Exception"), Cond.declares (Bundle.initS Bundle.tN)] := by decide +kernel
set_option maxRecDepth 100000 in
theorem xg_3 : ∀ w ∈ Cond.classLink RX11 137 ns_ :: Cond.initialized ns_ :: xs_at RX11 141 ns_ 13 sx_ ["java/lang/RuntimeException", "java/lang/Exception"], vx_ot w = true := by decide +kernel
theorem xw_1 : Cond.classLink RX11 137 ns_ ∈ GT ∧ Cond.initialized ns_ ∈ GT := ⟨gt_in 1273 (by decide +kernel) (by decide +kernel), gt_in 127 (by decide +kernel) (by decide +kernel)⟩
theorem xw_2 : Cond.classLink RL 13 ns_ ∈ GT := gt_in 1268 (by decide +kernel) (by decide +kernel)
def Pp_ (D : va_G) (cy : Nat → ClassId) (L : List Nat) (κ ln : Nat → Nat) (R : Nat → Nat → Option Nat) (I : Nat → Nat → Int32) (J : Nat → Nat → Int64) (sa sz : Nat) (U : State) : Prop := U.heap.size = sz ∧ Pu_ D cy L κ ln R I J U ∧ Ep_ sa (AN_ L sz) U
theorem Pp_blind {D : va_G} {cy : Nat → ClassId} {L : List Nat} {κ ln : Nat → Nat} {R : Nat → Nat → Option Nat} {I : Nat → Nat → Int32} {J : Nat → Nat → Int64} {sa sz : Nat} {av : List Value} : FrameBlind (va_Pc av (Pp_ D cy L κ ln R I J sa sz)) := fun a U g mk q => by
  obtain ⟨q0, q1, ⟨qP, qK, qN⟩, qE⟩ := q
  exact ⟨q0, q1, ⟨qP, va_K.moved (u := U) (U := U.calling g mk a) (Vm.Alike.refl U.vm) qK, qN⟩, Ep_.same rfl rfl qE⟩
def Xp_ (D : va_G) (cy : Nat → ClassId) (L : List Nat) (κ ln : Nat → Nat) (R : Nat → Nat → Option Nat) (I : Nat → Nat → Int32) (J : Nat → Nat → Int64) (sz : Nat) : String → State → State → Prop := vx_X (fun _ : Unit => True) (fun E _ t => E = ns_ ∧ Pu_ D cy L κ ln R I J t) (AN_ L sz)
def Yp_ (L : List Nat) (sz : Nat) : Array Value → State → Outcome → State → Prop := va_Qi (fun (_ : Int32) (_ : Unit) => False) (fun _ _ => True) (AN_ L sz)
set_option maxRecDepth 100000 in
set_option maxHeartbeats 4000000 in
theorem t_person {l : Launch} {D : va_G} {cy : Nat → ClassId} {L : List Nat} {κ ln : Nat → Nat} {R : Nat → Nat → Option Nat} {I : Nat → Nat → Int32} {J : Nat → Nat → Int64} {ow : Nat → Nat × Nat} (hst : l.stackTraces = false) (W9 : ∀ a ∈ L, Shp L κ ln R ow a) {x : Nat} (hLx : x ∈ L) (hkx : κ x = 11) (FZ : Fz_ L κ I) (p1 w : Int32) (sa sz : Nat) : vx_Met l yX11_person (Cond.code yX11_person cX11_person 3 (some .int) :: GT) { frames := 9, cells := 1, slots := 6, locals := 300 } (va_Pc [.ref x, .int p1, .int w] (Pp_ D cy L κ ln R I J sa sz)) (Yp_ L sz) (Xp_ D cy L κ ln R I J sz) 1 6 (AN_ L sz) := by
  refine vx_ofW (cc := cX11_person) (maxL := 3) (ret := some .int) (by decide +kernel) rfl ?_
  intro p e s m args below meth c s₁ B hml htb hv
  obtain ⟨rfl, hsz, ⟨hP0, hK, hN⟩, hE⟩ := hv
  subst hsz
  have hts := atoms_spec (ws := Cond.code yX11_person cX11_person 3 (some .int) :: GT) B.pre
  have C : CallFix p m c cX11_person 3 s ([.ref x, .int p1, .int w] : List Value).toArray GT RX11 := ⟨B.exec, B.bytes, hml, findClass_of_methodNamed B.named, fun w hw => hts w (List.mem_cons_of_mem _ hw)⟩
  have K : Wc_ D cy (AN_ L s.heap.size) L s := ⟨hN, fun q h => Or.inl h, hK⟩
  have G : WG p l e { frames := 9, cells := 1, slots := 6, locals := 300 } s m ([.ref x, .int p1, .int w] : List Value).toArray below meth c 3 0 0 (vx_MQ below (Yp_ L s.heap.size) (Xp_ D cy L κ ln R I J s.heap.size) ([.ref x, .int p1, .int w] : List Value).toArray s 1 6 (AN_ L s.heap.size)) D cy (AN_ L s.heap.size) s.heap L κ ln R I J 0 [(0, .ref x), (1, .int p1), (2, .int w)] [] := by
    refine g_aload_n C 0 dX11_person_0 rfl rfl ?_
    obtain ⟨b, hb, hbL, hbk⟩ := shp_o (W9 x hLx) hkx 1 8 rfl (by decide)
    refine g_getR C K hLx hkx f_11_19 hb dX11_person_1 ?_
    refine g_iload_n C 1 dX11_person_4 rfl rfl ?_
    refine g_callVI C K (c_Table_hasPerson hbL hbk p1 0 (by rw [FZ b hbL 5, hbk]; rfl)) hbL hbk (by decide) rfl v_11_133 rfl ⟨rfl, rfl⟩ ⟨Nat.le_of_ble_eq_true rfl, Nat.le_of_ble_eq_true rfl⟩ (Nat.le_of_ble_eq_true rfl) ⟨Nat.le_of_ble_eq_true rfl, Nat.le_of_ble_eq_true rfl⟩ dX11_person_5 rfl (st := []) (fun r I2 J2 h => ?_)
    obtain ⟨rfl, rfl, er⟩ := h
    rw [z_hp] at er
    subst er
    refine n_if_ne C (tgt := 21) rfl dX11_person_8 (by decide) ?_
    intro H locs ls hP hS hl
    exact xs_throw (ix := 13) (rx := sx_) C.1 C.2.1 hst (by decide +kernel) (by decide +kernel) (by decide +kernel) (by decide +kernel) C.2.2.2.1 (by decide +kernel) (by decide +kernel) (C.2.2.2.2 _ xw_1.1) (C.2.2.2.2 _ xw_1.2) hE.1 (vx_hat (fun w hw => C.2.2.2.2 _ (xg_1 w hw)) xg_2 (vx_c (va_Nw.use rfl hE.2.1.1) (vx_c (va_Nw.use rfl hE.2.1.2.1) (vx_c (va_Nw.use rfl hE.2.1.2.2.1) (vx_c (va_Nw.use rfl hE.2.1.2.2.2) vx_n))))) xg_3 hE.2.2.1 hE.2.2.2 hS (by rw [hml]; exact hl.1) dX11_person_11 dX11_person_14 dX11_person_15 dX11_person_17 dX11_person_20 (fun y hy => absurd hy (fun q => htb y q)) (Nat.le_of_ble_eq_true rfl) (Nat.le_of_ble_eq_true rfl) (Nat.le_of_ble_eq_true rfl) (Nat.le_of_ble_eq_true rfl) B.notSynchronized (fun t hvm hz hk9 => ⟨(), trivial, ⟨rfl, ⟨P_kept hP hk9, va_K.moved hvm hK, hN⟩⟩, ⟨Nat.le_trans hS.1 hz, fun q h1 h2 => (hk9 q (Nat.lt_of_lt_of_le h1 hS.1)).trans (hS.2.1 q h1 h2)⟩⟩) hS.2.2 (Nat.le_of_ble_eq_true rfl) (Nat.le_of_ble_eq_true rfl)
  rw [lg_entry_eq]
  exact G s.heap [] _ hP0 va_S.rf (lv_sub (lv_entry ([.ref x, .int p1, .int w] : List Value) (Nat.le_of_ble_eq_true rfl)) [0, 1, 2] rfl)
theorem lw_cp : Cond.codeWith yL_person cL_person 5 (some .int) [(0, 10, 13, 13)] ∈ GT := gt_in 1267 (by decide +kernel) (by decide +kernel)
theorem lw_pv : Vw_ RL 7 RX11 yX11_person cX11_person 3 (some .int) 2 := ⟨gt_in 1269 (by decide +kernel) (by decide +kernel), gt_in 1270 (by decide +kernel) (by decide +kernel), gt_in 1271 (by decide +kernel) (by decide +kernel), gt_in 105 (by decide +kernel) (by decide +kernel), gt_in 1272 (by decide +kernel) (by decide +kernel), by decide +kernel⟩
def Zp_ (D : va_G) (cy : Nat → ClassId) (L : List Nat) (κ ln : Nat → Nat) (R : Nat → Nat → Option Nat) (I : Nat → Nat → Int32) (J : Nat → Nat → Int64) (sz : Nat) : Array Value → State → Outcome → State → Prop := va_Qi (fun r (_ : Unit) => r = 1) (fun _ t => Pu_ D cy L κ ln R I J t) (AN_ L sz)
set_option maxRecDepth 100000 in
set_option maxHeartbeats 4000000 in
theorem l_person {l : Launch} {D : va_G} {cy : Nat → ClassId} {L : List Nat} {κ ln : Nat → Nat} {R : Nat → Nat → Option Nat} {I : Nat → Nat → Int32} {J : Nat → Nat → Int64} {ow : Nat → Nat × Nat} (hst : l.stackTraces = false) (W9 : ∀ a ∈ L, Shp L κ ln R ow a) {x oo : Nat} (hLx : x ∈ L) (hkx : κ x = 11) (FZ : Fz_ L κ I) (p1 w : Int32) (sa sz : Nat) : Met l yL_person (Cond.codeWith yL_person cL_person 5 (some .int) [(0, 10, 13, 13)] :: GT) { frames := 10, cells := 1, slots := 6, locals := 400 } (va_Pc [.ref x, .int p1, .int w, .ref oo] (Pp_ D cy L κ ln R I J sa sz)) (Zp_ D cy L κ ln R I J sz) 1 6 (AN_ L sz) := by
  refine va_MetW (cc := cL_person) (maxL := 5) (ret := some .int) (hh := [(0, 10, 13, 13)]) (by decide +kernel) rfl ?_
  intro p e s m args below meth c s₁ B hml hv
  obtain ⟨rfl, hsz, ⟨hP0, hK, hN⟩, hE⟩ := hv
  subst hsz
  have hts := atoms_spec (ws := Cond.codeWith yL_person cL_person 5 (some .int) [(0, 10, 13, 13)] :: GT) B.pre
  have hct : c.exceptionTable.toList = tableOf [(0, 10, 13, 13)] := vx_table (x := yL_person) B (hts _ List.mem_cons_self)
  have C : CallFix p m c cL_person 5 s ([.ref x, .int p1, .int w, .ref oo] : List Value).toArray GT RL := ⟨B.exec, B.bytes, hml, findClass_of_methodNamed B.named, fun w hw => hts w (List.mem_cons_of_mem _ hw)⟩
  have K : Wc_ D cy (AN_ L s.heap.size) L s := ⟨hN, fun q h => Or.inl h, hK⟩
  have G : WG p l e { frames := 10, cells := 1, slots := 6, locals := 400 } s m ([.ref x, .int p1, .int w, .ref oo] : List Value).toArray below meth c 5 0 0 (MQ below (Zp_ D cy L κ ln R I J s.heap.size) ([.ref x, .int p1, .int w, .ref oo] : List Value).toArray s 1 6 (AN_ L s.heap.size)) D cy (AN_ L s.heap.size) s.heap L κ ln R I J 0 [(0, .ref x), (1, .int p1), (2, .int w), (3, .ref oo)] [] := by
    refine g_aload_n C 3 dL_person_0 rfl rfl ?_
    refine g_iconst C (v := 0) dL_person_1 (by decide) ?_
    refine g_aload_n C 0 dL_person_2 rfl rfl ?_
    refine g_iload_n C 1 dL_person_3 rfl rfl ?_
    refine g_iload_n C 2 dL_person_4 rfl rfl ?_
    intro H locs ls hP hS hl
    obtain ⟨q0, hq0⟩ := pl_at (f := cel_ cy κ ln R I J) hLx
    rw [cel_o hkx (by decide)] at hq0
    have hAN : ∀ q, AN_ L H.size q → AN_ L s.heap.size q := fun q h => h.elim Or.inl (fun h => Or.inr (Nat.le_trans hS.1 h))
    refine vx_calli (vx_runV (As := [.int p1, .int w]) (rest := [.int 0, .ref oo]) C (t_person (sz := H.size) (sa := sa) hst W9 hLx hkx FZ p1 w) (cwV 2 C.2.2.2.2 (gi_V lw_pv) rfl rfl rfl lw_pv.2.2.2.2.2 ⟨Nat.le_of_ble_eq_true rfl, Nat.le_of_ble_eq_true rfl⟩) ⟨Pp_blind, va_recv hK hP rfl hq0, fun U hU hW => ⟨rfl, by rw [hU], ⟨by rw [hU]; exact hP, va_K.moved hW.alike hK, hN⟩, hE.go hW (fun a h1 h2 => by rw [hU]; exact hS.2.1 a h1 h2) hAN⟩⟩ rfl rfl hl.1 rfl (lv_room (Nat.le_of_ble_eq_true rfl)) dL_person_5 ⟨Nat.le_of_ble_eq_true rfl, Nat.le_of_ble_eq_true rfl⟩) hS (fun q _ h => hAN q h) hAN (fun q _ h => hAN q h) (fun E ce q9 u t H1 locs1 ht hvm _ hB hz1 hk1 hS1 hce hcv hcl => ?_) (fun r u t H1 locs1 ht hvm hw hB hz1 hk1 hS1 => absurd hw id)
    obtain ⟨rfl, hP1, -, -⟩ := hB
    rw [ht] at hP1
    refine vx_catch (name := ns_) C.2.2.2.1 [] ⟨0, 10, 13, 13⟩ [] (by rw [hct]; rfl) (fun z hz => absurd hz List.not_mem_nil) (by decide) (by decide) (C.2.2.2.2 _ xw_2) (va_Nw.use rfl hE.2.1.1) hce hcv hcl ?_
    have G2 : WG p l e { frames := 10, cells := 1, slots := 6, locals := 400 } s m ([.ref x, .int p1, .int w, .ref oo] : List Value).toArray below meth c 5 1 6 (MQ below (Zp_ D cy L κ ln R I J s.heap.size) ([.ref x, .int p1, .int w, .ref oo] : List Value).toArray s 1 6 (AN_ L s.heap.size)) D cy (AN_ L s.heap.size) s.heap L κ ln R I J 13 [(0, .ref x), (1, .int p1), (2, .int w), (3, .ref oo)] [.ref q9] := by
      refine g_astore C dL_person_13 (by decide) (lo2 := [(4, .ref q9), (0, .ref x), (1, .int p1), (2, .int w), (3, .ref oo)]) rfl ?_
      refine g_iconst C (v := 1) dL_person_15 (by decide) ?_
      intro H2 locs2 ls2 hP2 hS2 hl2
      exact W.iret (v := 1) C.1 C.2.1 B.returns (fun t ht hW => ⟨⟨1, (), rfl, rfl, ⟨by rw [ht]; exact hP2, va_K.moved hW.alike hK, hN⟩⟩, hS2.F ht⟩) hS2.2.2 dL_person_16 (hlocks := B.notSynchronized)
    exact G2 H1 locs1 ls hP1 hS1 hl
  rw [lg_entry_eq]
  exact G s.heap [] _ hP0 va_S.rf (lv_sub (lv_entry ([.ref x, .int p1, .int w, .ref oo] : List Value) (Nat.le_of_ble_eq_true rfl)) [0, 1, 2, 3] rfl)
