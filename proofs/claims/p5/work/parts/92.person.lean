theorem dL_person_0 : decode cL_person 0 = .ok (.aload_n 3, 1) := by decide +kernel
theorem dL_person_1 : decode cL_person 1 = .ok (.iconst 0, 1) := by decide +kernel
theorem dL_person_2 : decode cL_person 2 = .ok (.aload_n 0, 1) := by decide +kernel
theorem dL_person_3 : decode cL_person 3 = .ok (.iload_n 1, 1) := by decide +kernel
theorem dL_person_4 : decode cL_person 4 = .ok (.iload_n 2, 1) := by decide +kernel
theorem dL_person_5 : decode cL_person 5 = .ok (.invokevirtual 7, 3) := by decide +kernel
theorem dL_person_8 : decode cL_person 8 = .ok (.i2l, 1) := by decide +kernel
theorem dL_person_9 : decode cL_person 9 = .ok (.lastore, 1) := by decide +kernel
theorem dL_person_10 : decode cL_person 10 = .ok (.goto 7, 3) := by decide +kernel
theorem dL_person_13 : decode cL_person 13 = .ok (.astore 4, 2) := by decide +kernel
theorem dL_person_15 : decode cL_person 15 = .ok (.iconst 1, 1) := by decide +kernel
theorem dL_person_16 : decode cL_person 16 = .ok (.ireturn, 1) := by decide +kernel
theorem dL_person_17 : decode cL_person 17 = .ok (.iconst 0, 1) := by decide +kernel
theorem dL_person_18 : decode cL_person 18 = .ok (.ireturn, 1) := by decide +kernel
theorem dX11_person_0 : decode cX11_person 0 = .ok (.aload_n 0, 1) := by decide +kernel
theorem dX11_person_1 : decode cX11_person 1 = .ok (.getfield 19, 3) := by decide +kernel
theorem dX11_person_4 : decode cX11_person 4 = .ok (.iload_n 1, 1) := by decide +kernel
theorem dX11_person_5 : decode cX11_person 5 = .ok (.invokevirtual 133, 3) := by decide +kernel
theorem dX11_person_8 : decode cX11_person 8 = .ok (.ifCond .ne 13, 3) := by decide +kernel
theorem dX11_person_11 : decode cX11_person 11 = .ok (.new 137, 3) := by decide +kernel
theorem dX11_person_14 : decode cX11_person 14 = .ok (.dup, 1) := by decide +kernel
theorem dX11_person_15 : decode cX11_person 15 = .ok (.ldc 139, 2) := by decide +kernel
theorem dX11_person_17 : decode cX11_person 17 = .ok (.invokespecial 141, 3) := by decide +kernel
theorem dX11_person_20 : decode cX11_person 20 = .ok (.athrow, 1) := by decide +kernel
theorem dX11_person_21 : decode cX11_person 21 = .ok (.iload_n 2, 1) := by decide +kernel
theorem dX11_person_22 : decode cX11_person 22 = .ok (.tableswitch 143 0 8 #[50, 60, 70, 82, 94, 104, 114, 124, 134], 50) := by decide +kernel
theorem dX11_person_72 : decode cX11_person 72 = .ok (.aload_n 0, 1) := by decide +kernel
theorem dX11_person_73 : decode cX11_person 73 = .ok (.getfield 19, 3) := by decide +kernel
theorem dX11_person_76 : decode cX11_person 76 = .ok (.getfield 144, 3) := by decide +kernel
theorem dX11_person_79 : decode cX11_person 79 = .ok (.iload_n 1, 1) := by decide +kernel
theorem dX11_person_80 : decode cX11_person 80 = .ok (.iaload, 1) := by decide +kernel
theorem dX11_person_81 : decode cX11_person 81 = .ok (.ireturn, 1) := by decide +kernel
theorem dX11_person_82 : decode cX11_person 82 = .ok (.aload_n 0, 1) := by decide +kernel
theorem dX11_person_83 : decode cX11_person 83 = .ok (.getfield 19, 3) := by decide +kernel
theorem dX11_person_86 : decode cX11_person 86 = .ok (.getfield 148, 3) := by decide +kernel
theorem dX11_person_89 : decode cX11_person 89 = .ok (.iload_n 1, 1) := by decide +kernel
theorem dX11_person_90 : decode cX11_person 90 = .ok (.iaload, 1) := by decide +kernel
theorem dX11_person_91 : decode cX11_person 91 = .ok (.ireturn, 1) := by decide +kernel
theorem dX11_person_92 : decode cX11_person 92 = .ok (.aload_n 0, 1) := by decide +kernel
theorem dX11_person_93 : decode cX11_person 93 = .ok (.getfield 28, 3) := by decide +kernel
theorem dX11_person_96 : decode cX11_person 96 = .ok (.getfield 151, 3) := by decide +kernel
theorem dX11_person_99 : decode cX11_person 99 = .ok (.iload_n 1, 1) := by decide +kernel
theorem dX11_person_100 : decode cX11_person 100 = .ok (.ishr, 1) := by decide +kernel
theorem dX11_person_101 : decode cX11_person 101 = .ok (.iconst 1, 1) := by decide +kernel
theorem dX11_person_102 : decode cX11_person 102 = .ok (.iand, 1) := by decide +kernel
theorem dX11_person_103 : decode cX11_person 103 = .ok (.ireturn, 1) := by decide +kernel
theorem dX11_person_104 : decode cX11_person 104 = .ok (.aload_n 0, 1) := by decide +kernel
theorem dX11_person_105 : decode cX11_person 105 = .ok (.getfield 28, 3) := by decide +kernel
theorem dX11_person_108 : decode cX11_person 108 = .ok (.getfield 154, 3) := by decide +kernel
theorem dX11_person_111 : decode cX11_person 111 = .ok (.iload_n 1, 1) := by decide +kernel
theorem dX11_person_112 : decode cX11_person 112 = .ok (.ishr, 1) := by decide +kernel
theorem dX11_person_113 : decode cX11_person 113 = .ok (.iconst 1, 1) := by decide +kernel
theorem dX11_person_114 : decode cX11_person 114 = .ok (.iand, 1) := by decide +kernel
theorem dX11_person_115 : decode cX11_person 115 = .ok (.ireturn, 1) := by decide +kernel
theorem dX11_person_116 : decode cX11_person 116 = .ok (.aload_n 0, 1) := by decide +kernel
theorem dX11_person_117 : decode cX11_person 117 = .ok (.getfield 28, 3) := by decide +kernel
theorem dX11_person_120 : decode cX11_person 120 = .ok (.getfield 157, 3) := by decide +kernel
theorem dX11_person_123 : decode cX11_person 123 = .ok (.iload_n 1, 1) := by decide +kernel
theorem dX11_person_124 : decode cX11_person 124 = .ok (.iaload, 1) := by decide +kernel
theorem dX11_person_125 : decode cX11_person 125 = .ok (.ireturn, 1) := by decide +kernel
theorem dX11_person_126 : decode cX11_person 126 = .ok (.aload_n 0, 1) := by decide +kernel
theorem dX11_person_127 : decode cX11_person 127 = .ok (.getfield 28, 3) := by decide +kernel
theorem dX11_person_130 : decode cX11_person 130 = .ok (.getfield 160, 3) := by decide +kernel
theorem dX11_person_133 : decode cX11_person 133 = .ok (.iload_n 1, 1) := by decide +kernel
theorem dX11_person_134 : decode cX11_person 134 = .ok (.iaload, 1) := by decide +kernel
theorem dX11_person_135 : decode cX11_person 135 = .ok (.ireturn, 1) := by decide +kernel
theorem dX11_person_136 : decode cX11_person 136 = .ok (.aload_n 0, 1) := by decide +kernel
theorem dX11_person_137 : decode cX11_person 137 = .ok (.getfield 28, 3) := by decide +kernel
theorem dX11_person_140 : decode cX11_person 140 = .ok (.getfield 163, 3) := by decide +kernel
theorem dX11_person_143 : decode cX11_person 143 = .ok (.iload_n 1, 1) := by decide +kernel
theorem dX11_person_144 : decode cX11_person 144 = .ok (.iaload, 1) := by decide +kernel
theorem dX11_person_145 : decode cX11_person 145 = .ok (.ireturn, 1) := by decide +kernel
theorem dX11_person_146 : decode cX11_person 146 = .ok (.aload_n 0, 1) := by decide +kernel
theorem dX11_person_147 : decode cX11_person 147 = .ok (.getfield 28, 3) := by decide +kernel
theorem dX11_person_150 : decode cX11_person 150 = .ok (.getfield 166, 3) := by decide +kernel
theorem dX11_person_153 : decode cX11_person 153 = .ok (.iload_n 1, 1) := by decide +kernel
theorem dX11_person_154 : decode cX11_person 154 = .ok (.iaload, 1) := by decide +kernel
theorem dX11_person_155 : decode cX11_person 155 = .ok (.ireturn, 1) := by decide +kernel
theorem dX11_person_156 : decode cX11_person 156 = .ok (.aload_n 0, 1) := by decide +kernel
theorem dX11_person_157 : decode cX11_person 157 = .ok (.getfield 19, 3) := by decide +kernel
theorem dX11_person_160 : decode cX11_person 160 = .ok (.iload_n 1, 1) := by decide +kernel
theorem dX11_person_161 : decode cX11_person 161 = .ok (.invokevirtual 169, 3) := by decide +kernel
theorem dX11_person_164 : decode cX11_person 164 = .ok (.ireturn, 1) := by decide +kernel
theorem dX11_person_165 : decode cX11_person 165 = .ok (.new 137, 3) := by decide +kernel
theorem dX11_person_168 : decode cX11_person 168 = .ok (.dup, 1) := by decide +kernel
theorem dX11_person_169 : decode cX11_person 169 = .ok (.ldc 173, 2) := by decide +kernel
theorem dX11_person_171 : decode cX11_person 171 = .ok (.invokespecial 141, 3) := by decide +kernel
theorem dX11_person_174 : decode cX11_person 174 = .ok (.athrow, 1) := by decide +kernel
section VXK
variable {p : Program} {l : Launch} {e : Env} {R : Room} {s : State} {m : MethodId} {args : Array Value} {below : List Frame} {meth : Method} {c : Code} {H : Heap} {locs : List Loc} {cells slots : Nat} {Q : State → Prop} {pc : Nat} {ls : Array Slot} {rest : List Value}
theorem vx_catch {own name : String} {E : String} {ce : Cell} {q : Addr} (hown : s.vm.findClass own = some m.cls) (pre : List ExceptionTableEntry) (x : ExceptionTableEntry) (suf : List ExceptionTableEntry) (hsplit : c.exceptionTable.toList = pre ++ x :: suf)
    (hpass : ∀ z ∈ pre, covers z pc = false ∨ (z.catchType ≠ 0 ∧ ∃ nm : String, (Cond.classLink own z.catchType nm).before args s = true ∧ va_Nc E nm s)) (hx : covers x pc = true) (h0 : x.catchType ≠ 0)
    (hlink : (Cond.classLink own x.catchType name).before args s = true) (hcast : (Cond.castable E name).before args s = true) (hcell : H[q]? = some ce) (hv : ce.vm = .none) (hcl : s.vm.findClass E = some ce.cls)
    (kk : W p l e R s m args below meth c H locs cells slots Q (F0 m x.handlerPc ls [.ref q])) : vx_W p l e R s m args below meth c H locs cells slots Q (F0 m pc ls rest) q := by
  intro T hT X
  have hpl : e.platform.magicAccessors = ({} : Platform).magicAccessors := by rw [X.admits.platform]
  obtain ⟨c3, c4, hc3, hc4, hasg⟩ := Cond.castable_spec hcast
  cases Option.some.inj (hc3.symm.trans hcl)
  obtain ⟨c5, hc5, hcl5⟩ := Cond.classLink_spec hown hlink e.platform hpl
  cases Option.some.inj (hc4.symm.trans hc5)
  obtain ⟨vm', X', st⟩ := Jvm.Stand.thenCaughtThrough X q (g := F0 m pc ls rest) rfl (Steps.refl _) (by rw [hT]; exact hcell) (by rw [hv]; rfl) (by obtain ⟨k9, h9, -⟩ := Vm.findClass_spec hcl; exact ⟨k9, h9⟩) pre x suf hsplit
    (fun z hz => by
      rcases hpass z hz with h | ⟨hz0, nm, hl1, hn1⟩
      · exact Or.inl h
      · obtain ⟨c6, hc6, hcl6⟩ := Cond.classLink_spec hown hl1 e.platform hpl
        obtain ⟨a8, b8, h1, h2, h3⟩ := hn1
        cases Option.some.inj (h1.symm.trans hcl)
        cases Option.some.inj (h2.symm.trans hc6)
        exact Or.inr ⟨hz0, _, hcl6, h3⟩) hx (Or.inr ⟨h0, c4, hcl5, hasg⟩)
  obtain ⟨t, a1, b1⟩ := kk (T.setVm vm') hT X'
  exact ⟨t, st.trans a1, b1⟩
end VXK
/-! 'throw new E("text")' where E's constructor hands on by a link of another number than 7: after the library's row of the same throw (ownAtoms), over its chain with a number of its own (Bundle.chainSX). -/
section VXT
variable {p : Program} {l : Launch} {e : Env} {R : Room} {s : State} {m₀ : MethodId} {args : Array Value} {below : List Frame} {meth : Method} {c : Code} {W : State} {locs : List Loc} {cells slots : Nat}
set_option maxHeartbeats 1000000 in
theorem xs_ctor (X : Stand p l e R s m₀ args below meth c W locs cells slots) (hexec : p.tables.exec = Jvm.exec) (htr : e.platform.stackTraces = false) {own cls : String} {names : List String} {ic : Nat}
    {ix : Nat} {rx : ByteArray} (x0 : decode rx 0 = .ok (.aload_n 0, 1)) (x1 : decode rx 1 = .ok (.aload_n 1, 1)) (x2 : decode rx 2 = .ok (.invokespecial ix, 3)) (x5 : decode rx 5 = .ok (.return_, 1))
    (hown : s.vm.findClass own = some m₀.cls) (hcls : Bundle.fit cls = true) (hnames : ∀ n ∈ names, Bundle.fit n = true)
    (h : ∀ a ∈ Bundle.ownAtomsX own ic cls ix rx names, a.before args s = true)
    (hlocs : ∀ x ∈ locs, ∀ cell, s.heap[x.base]? = some cell → cell.vm.isStatics = false)
    {a : Addr} {cX : ClassId} {kX : Class} (hfX : s.vm.findClass cls = some cX) (hkX : s.vm.classes[cX]? = some kX) (hcell : W.heap[a]? = some (freshCell cX kX)) (hnew : s.heap.size ≤ a)
    {msg : Value} (hmsg : msg.isRef = true)
    {g : JFrame} (hg : g.method = m₀) (hsize : g.locals.size = c.maxLocals) (hlocked : g.locked = none) (hentered : g.entered = []) {rest : List Value} (hstack : g.stack = msg :: .ref a :: .ref a :: rest)
    (hd6 : decode c.code g.pc = .ok (.invokespecial ic, 3)) (hd9 : decode c.code (g.pc + 3) = .ok (.athrow, 1)) (hout : ∀ x ∈ c.exceptionTable.toList, covers x (g.pc + 3) = false)
    (hRf : names.length + 3 < R.frames) (hRl : 2 * g.monitorRoom + ((Value.ref a :: rest).map fun v => v.category).sum + (13 * (names.length + 1) + 42) ≤ R.locals) (hlocks : meth.locks = false) :
    ∃ U : State, Steps p.tables e below (W.setTop g) U ∧ U.status = .running ∧ Ended U below (.threw a) ∧ s.WarmedH U.vm ∧ s.sameButNew ({ U with vm := s.vm } : State) locs cells slots ∧
      ∃ ce, U.heap[a]? = some ce ∧ ce.cls = cX ∧ ce.vm = .none := by
  have q1 : e.platform.frameOwnsMonitors = true := by rw [X.admits.platform]
  have q2 : e.platform.finalization = false := by rw [X.admits.platform]
  have hpl : e.platform.magicAccessors = ({} : Platform).magicAccessors := by rw [X.admits.platform]
  have o : ∀ x, x ∈ Bundle.ownAtomsX own ic cls ix rx names → x.holds args s none s [] = true := fun x hx => h x hx
  obtain ⟨T, Z0, L, -, Y⟩ := ThrowableC.of_atoms (args := args) q1 q2 hpl (fun x hx => h x (by simp [Bundle.ownAtomsX, hx]))
  obtain ⟨Z, M, LZ, LM, hnZ⟩ := Init0T.ofS_atoms (args := args) hpl L Y (fun x hx => h x (by simp [Bundle.ownAtomsX, hx]))
  obtain ⟨P1, Ps, hlen, L1, hL, hP1, hl1, hl2⟩ := Bundle.chainSX (args := args) hpl hnZ x0 x1 x2 x5 names cls hcls hnames (fun x hx => h x (by simp [Bundle.ownAtomsX, hx]))
  have hf : s.vm.findClass cls = some P1.m.cls := findClass_of_methodNamed hP1
  cases Option.some.inj (hfX.symm.trans hf)
  obtain ⟨c1, k1, hc1, hk, hord, -, -, -⟩ := Cond.instantiable_spec (o (.instantiable cls 6) (by simp [Bundle.ownAtomsX]))
  cases Option.some.inj (hc1.symm.trans hf)
  cases Option.some.inj (hkX.symm.trans hk)
  have hs0 : selectMethod e.platform s.vm P1.m.cls T.fill0 = .method T.fill0 := by
    obtain ⟨c2, r2, m2, w1, w2, w3, w4, -⟩ := Cond.selects_spec (o (.selects cls Bundle.tFill0 Bundle.tFill0) (by simp [Bundle.ownAtomsX]))
    cases Option.some.inj (w1.symm.trans hf)
    cases Option.some.inj (w2.symm.trans (State.methodFound?_of_named Y.fill0 (by decide)))
    cases Option.some.inj (w3.symm.trans Y.fill0)
    rw [Launch.admits_selectMethod X.admits]; exact w4
  have hsF : selectMethod e.platform s.vm P1.m.cls T.fill = .method T.fill := by
    obtain ⟨c2, r2, m2, w1, w2, w3, w4, -⟩ := Cond.selects_spec (o (.selects cls Bundle.tFill Bundle.tFill) (by simp [Bundle.ownAtomsX]))
    cases Option.some.inj (w1.symm.trans hf)
    cases Option.some.inj (w2.symm.trans (State.methodFound?_of_named Y.fill (by decide)))
    cases Option.some.inj (w3.symm.trans Y.fill)
    rw [Launch.admits_selectMethod X.admits]; exact w4
  obtain ⟨z0, hz0, hzi⟩ := Y.statics
  obtain ⟨u0, hu0⟩ := Cond.staticRefV Y.unassigned L.unassignedStatic L.statics hz0 hzi (o (.isRef (.static Bundle.tN "UNASSIGNED_STACK" Bundle.steD)) (by simp [Bundle.ownAtomsX]))
  obtain ⟨sn, hsn⟩ := Cond.staticRefV Y.sentinel L.sentinelStatic L.statics hz0 hzi (o (.isRef (.static Bundle.tN "SUPPRESSED_SENTINEL" Bundle.listD)) (by simp [Bundle.ownAtomsX]))
  obtain ⟨ci, ib, fB, hb1, hb2, hb3, hsB, -, hnB, htB, hfB⟩ := Cond.ownField (t := .object "java/lang/Object") Y.found L.cls (by decide +kernel) (o (.fieldLink Bundle.tN 198 Bundle.tN "backtrace" "Ljava/lang/Object;") (by simp [Bundle.ownAtomsX])) (o (.lays Bundle.tN Bundle.tN "backtrace" "Ljava/lang/Object;") (by simp [Bundle.ownAtomsX])) e.platform hpl
  obtain ⟨zW, hzW, hzE, -, hkeep⟩ := X.same.2.2.2.2.2 T.aS z0 hz0
  have hcS : W.heap[T.aS]? = some zW := hzW
  have hno : ∀ i, (⟨T.aS, i⟩ : Loc) ∉ locs := fun i hm => by
    have w := hlocs _ hm z0 hz0
    rw [hzi] at w; cases w
  have hkn : zW.vm ≠ .unknown := by
    rw [hzE]; intro hu
    rw [show z0.vm = .unknown from hu] at hzi
    cases hzi
  have hne : T.aS ≠ a := Nat.ne_of_lt (Nat.lt_of_lt_of_le (Array.getElem?_eq_some_iff.mp hz0).1 hnew)
  obtain ⟨iM, hfM⟩ := Y.msg
  obtain ⟨tC, dC, hdC, hnC⟩ := Cond.laysAt hf hk Y.cause (o (.lays cls Bundle.tN "cause" "Ljava/lang/Throwable;") (by simp [Bundle.ownAtomsX]))
  obtain ⟨tS, dS, hdS, hnS⟩ := Cond.laysAt hf hk Y.stack (o (.lays cls Bundle.tN "stackTrace" Bundle.steD) (by simp [Bundle.ownAtomsX]))
  obtain ⟨tP, dP, hdP, hnP⟩ := Cond.laysAt hf hk Y.supp (o (.lays cls Bundle.tN "suppressedExceptions" Bundle.listD) (by simp [Bundle.ownAtomsX]))
  obtain ⟨tM, dM, hdM, hnM⟩ := Cond.laysAt hf hk hfM (o (.lays cls Bundle.tN "detailMessage" "Ljava/lang/String;") (by simp [Bundle.ownAtomsX]))
  obtain ⟨tB, dB, hdB, hnBk⟩ := Cond.laysAt hf hk hfB (o (.lays cls Bundle.tN "backtrace" "Ljava/lang/Object;") (by simp [Bundle.ownAtomsX]))
  have bC := Cond.laysApart hdB hdC hnBk hnC (by rw [hnB, Y.causeName]; decide)
  have bS := Cond.laysApart hdB hdS hnBk hnS (by rw [hnB, Y.stackName]; decide)
  have bP := Cond.laysApart hdB hdP hnBk hnP (by rw [hnB, Y.suppName]; decide)
  have hsk : SkipFacts T e.platform s (fun u => u) u0 ((preparedCellV T.toThrowableT (freshCell P1.m.cls kX) a u0 sn).withEntry W.cur) :=
    ⟨{ ci198 := ci, i198 := ib, fBack := fB }, ⟨hb1, hb2, hb3, hsB⟩, by
      have w := fresh_default (c := P1.m.cls) tB
      rw [htB] at w
      simpa [preparedCellV, Cell.setSlot, Cell.withEntry, Array.getElem?_setIfInBounds, bC, bS, bP, bC.symm, bS.symm, bP.symm, defaultValue] using w, fun _ _ => rfl⟩
  obtain ⟨tm, mC, cC, kC, v1, hnm, -, -, -, -, -, -, -, hW1, st1⟩ := Steps.initColdS (tb := p.tables) (e := e) (below := below) (s := s) (U := W) X.here hexec X.warmed hpl hown (t := Bundle.initS cls) rfl rfl (Bundle.fit_spec hcls).2
    (o (.methodLink own ic (Bundle.initS cls)) (by simp [Bundle.ownAtomsX])) (h (.instanceMethod (Bundle.initS cls)) (by cases names <;> simp [Bundle.ownAtomsX, Bundle.chainSAtomsX, Bundle.passSAtoms])) (bytes := rx) (maxL := 2) (h (.code (Bundle.initS cls) rx 2 none) (by cases names <;> simp [Bundle.ownAtomsX, Bundle.chainSAtomsX, Bundle.passSAtoms]))
    (f := g) hg (a := a) (msg := msg) (rest := .ref a :: rest) hstack hd6
  cases Option.some.inj (hnm.symm.trans hP1)
  have X1 := X.noted hW1
  obtain ⟨v2, X2, st2⟩ := X1.ctorMessageOffV hexec (g := { g with stack := .ref a :: rest }) hg hsize T L Z LZ M LM (P1 :: Ps)
    (fun P hP => by rcases List.mem_cons.mp hP with rfl | hP; exact L1; exact hL P hP) ⟨hl1, hl2⟩ (u0 := u0) (sen := sn) (self := a) hmsg (cell := freshCell P1.m.cls kX) (cellS := zW)
    hcell (fun _ => by simp) (by simp) rfl rfl hs0 hsF hcS hne hkn (by rw [hkeep _ (hno _)]; exact hu0) (by rw [hkeep _ (hno _)]; exact hsn)
    (Takes.of_laid hk hord tC (by rw [Y.causeType]; rfl)) (Takes.of_laid hk hord tS (by rw [Y.stackType]; exact fits_refV_array _ u0)) (Takes.of_laid hk hord tP (by rw [Y.suppType]; exact fits_refV_object _ sn))
    (Takes.of_laid hk hord tM (by rw [Y.msgType]; exact fits_refV_object _ ⟨msg, hmsg⟩)) Y.objLocals hsk htr [] hd6
    (by simp only [List.length_cons, hlen]; omega) (by simp only [List.length_cons, hlen]; exact hRl)
  obtain ⟨hwk, hrun, hend, hWU, hsame⟩ := X2.athrowLeaves hexec (g := { g with stack := .ref a :: rest, pc := g.pc + 3 }) hg hlocked hentered hout (a := a) (rest := rest) rfl hd9
  have hlt : a < ((W.setVm v1).setVm v2).heap.size := (Array.getElem?_eq_some_iff.mp hcell).1
  have hU := heapAt_setCell_self (s := (W.setVm v1).setVm v2) (plainBareV T.toThrowableT (freshCell P1.m.cls kX) a u0 sn msg) hlt
  refine ⟨_, st1 _ (fun acts => ?_), hrun, hend, hWU, hsame.weaken (fun y hy hy' => ?_) (Nat.le_refl _) (Nat.le_refl _), _, hU, rfl, rfl⟩
  · rw [doInvoke_state]
    exact st2 _ hwk
  · rcases List.mem_append.mp hy with h1 | h1
    · exact h1
    · exfalso
      have hb : y.base = a := by
        simp only [List.mem_cons, List.not_mem_nil, or_false] at h1
        rcases h1 with rfl | rfl | rfl | rfl | rfl <;> rfl
      rw [hb] at hy'
      exact Nat.not_lt.mpr hnew hy'

end VXT
section VXU

variable {p : Program} {l : Launch} {e : Env} {R : Room} {s : State} {m : MethodId} {args : Array Value} {below : List Frame} {meth : Method} {c : Code} {H : Heap} {locs : List Loc} {cells slots : Nat} {Q : State → Prop}
variable {mc ms : Nat} {free : Addr → Prop} {A0 A1 : Nat → Prop} {H0 : Heap} {a : Array Value} {ls : Array Slot} {st0 rest : List Value}
variable {Qc : Array Value → State → Outcome → State → Prop} {XC : String → State → State → Prop}
def xs_at (own : String) (ic : Nat) (X : String) (ix : Nat) (rx : ByteArray) (names : List String) : List Cond := (Bundle.ownAtomsX own ic X ix rx names).filter vx_no
theorem xs_throw {cc : ByteArray} {pc : Nat} (hexec : p.tables.exec = Jvm.exec) (hb : c.code = cc) (hl : l.stackTraces = false) {own cls text : String} {names : List String} {ik is ic ix mc ms sa : Nat} {rx : ByteArray} (x0 : decode rx 0 = .ok (.aload_n 0, 1)) (x1 : decode rx 1 = .ok (.aload_n 1, 1)) (x2 : decode rx 2 = .ok (.invokespecial ix, 3)) (x5 : decode rx 5 = .ok (.return_, 1)) {A : Nat → Prop}
    (hown : s.vm.findClass own = some m.cls) (hcls : Bundle.fit cls = true) (hnames : ∀ n ∈ names, Bundle.fit n = true)
    (hk : (Cond.classLink own ik cls).before args s = true) (hini : (Cond.initialized cls).before args s = true) (hstr : vk_R own is text sa s) (hat : ∀ w ∈ xs_at own ic cls ix rx names, w.before args s = true)
    (hgood : ∀ w ∈ Cond.classLink own ik cls :: Cond.initialized cls :: xs_at own ic cls ix rx names, vx_ot w = true)
    (hU : vx_Zq Bundle.tN "UNASSIGNED_STACK" Bundle.steD A s s.heap) (hN : vx_Zq Bundle.tN "SUPPRESSED_SENTINEL" Bundle.listD A s s.heap) (hS : va_S A s.heap H locs) (hsize : ls.size = c.maxLocals)
    (d0 : decode cc pc = .ok (.new ik, 3)) (d3 : decode cc (pc + 3) = .ok (.dup, 1)) (d4 : decode cc (pc + 4) = .ok (.ldc is, 2)) (d6 : decode cc (pc + 6) = .ok (.invokespecial ic, 3)) (d9 : decode cc (pc + 9) = .ok (.athrow, 1))
    (hout : ∀ x ∈ c.exceptionTable.toList, covers x (pc + 9) = false)
    (hRframes : names.length + 3 < R.frames) (hRlocals : (rest.map fun v => v.category).sum + (13 * (names.length + 1) + 43) ≤ R.locals) (hRcells : cells + 1 ≤ R.cells) (hRslots : slots + 6 ≤ R.slots) (hlocks : meth.locks = false)
    (hx : ∀ t : State, s.vm.Alike t.vm → H.size ≤ t.heap.size → (∀ q : Nat, q < H.size → t.heap[q]? = H[q]?) → XC cls s t)
    (hf : ∀ z ∈ locs, free z.base) (hc : cells + 1 ≤ mc) (hs : slots + 6 ≤ ms) :
    W p l e R s m args below meth c H locs cells slots (vx_MQ below Qc XC args s mc ms free) (F0 m pc ls rest) := by
  intro T hT X
  have htr : e.platform.stackTraces = false := (show e.platform.stackTraces = l.stackTraces by rw [X.admits.platform]).trans hl
  have Y := vx_rebase X (R' := { frames := R.frames, locals := R.locals, cells := 1, slots := 6 }) (Nat.le_refl _) (Nat.le_refl _) hRcells hRslots
  obtain ⟨s', hA⟩ : ∃ z, z = (T.setVm s.vm).setFrames (.invoking m args :: below) := ⟨_, rfl⟩
  rw [← hA] at Y
  have hvm : s'.vm = s.vm := by rw [hA]; rfl
  have hhp : s'.heap = H := by rw [hA]; exact hT
  have hW0 : s.WarmedH s'.vm := by rw [hvm]; exact State.WarmedH.refl s
  have hat' : ∀ w ∈ xs_at own ic cls ix rx names, w.before args s' = true := fun w hw => vx_ot_at hW0 hvm.symm (hgood w (List.mem_cons_of_mem _ (List.mem_cons_of_mem _ hw))) (hat w hw)
  have hk' : (Cond.classLink own ik cls).before args s' = true := vx_ot_at hW0 hvm.symm (hgood _ List.mem_cons_self) hk
  have hini' : (Cond.initialized cls).before args s' = true := vx_ot_at hW0 hvm.symm (hgood _ (List.mem_cons_of_mem _ List.mem_cons_self)) hini
  have hU' : vx_Zq Bundle.tN "UNASSIGNED_STACK" Bundle.steD A s' s'.heap := by rw [hhp]; exact vx_Zq.moved hW0.alike (hU.kept hS.2.1)
  have hN' : vx_Zq Bundle.tN "SUPPRESSED_SENTINEL" Bundle.listD A s' s'.heap := by rw [hhp]; exact vx_Zq.moved hW0.alike (hN.kept hS.2.1)
  have h : ∀ w ∈ Bundle.ownAtomsX own ic cls ix rx names, w.before args s' = true := vx_own hat' (vx_isRefq hU'.1) (vx_isRefq hN'.1) hU'.2.word hN'.2.word
  have hown' : s'.vm.findClass own = some m.cls := by rw [hvm]; exact hown
  have hins : (Cond.instantiable cls 6).before args s' = true := h _ (by simp [Bundle.ownAtomsX])
  obtain ⟨vm₁, cX, kX, hfX, hkX, -, -, X₁, st1⟩ := Y.newCold hexec (own := own) (C := cls) (index := ik) (n := 6) hown' hk' hins hini'
    (g := F0 m pc ls rest) rfl (by rw [hb]; exact d0) (Nat.le_refl _) (Nat.le_refl _)
  generalize hT1 : (T.setVm vm₁).pushCell { cls := cX, slots := kX.instanceTypes.map defaultValue, vm := .none } = T1 at X₁ st1
  have hcat : (Value.ref T.heap.size).category = 1 := rfl
  have hcellA : T1.heap[T.heap.size]? = some (freshCell cX kX) := by rw [← hT1]; exact State.heap_pushCell_size _ _
  have d3' : decode c.code (pc + 3) = .ok (.dup, 1) := by rw [hb]; exact d3
  have d4' : decode c.code (pc + 4) = .ok (.ldc is, 2) := by rw [hb]; exact d4
  have hstr' : vk_R own is text sa s' := vk_R.warm hW0 hstr
  obtain ⟨U, hsteps, hrun, hend, hW, hsame, ce, hce, hO1, hO2⟩ := xs_ctor X₁ hexec htr x0 x1 x2 x5 (own := own) (cls := cls) (names := names) (ic := ic) hown' hcls hnames h (fun x hx => nomatch hx) hfX hkX hcellA (by rw [hhp, hT]; exact Nat.le_refl _) (msg := .ref sa) rfl
    (g := { method := m, pc := pc + 6, locals := ls, stack := .ref sa :: .ref T.heap.size :: .ref T.heap.size :: rest, locked := none }) rfl hsize rfl rfl (rest := rest) rfl
    (by rw [hb]; exact d6) (by rw [hb]; exact d9) hout hRframes (by simp only [List.map_cons, List.sum_cons, hcat]; omega) hlocks
  obtain ⟨f1, f2⟩ := vx_frame hsame
  rw [hhp] at f1 f2
  have hWs : s.WarmedH U.vm := State.WarmedH.trans hW0 hW
  have hcl : s.vm.findClass cls = some ce.cls := by rw [hO1, ← hvm]; exact hfX
  have hall : s.sameButNew ({ U with vm := s.vm } : State) locs mc ms := by
    subst hA
    obtain ⟨e1, e2⟩ := hsame
    rw [State.setFrames_setFrames] at e1
    have h2 : (T.setVm s.vm).sameButNew ({ U with vm := s.vm } : State) [] (0 + 1) (0 + 6) := ⟨e1, e2⟩
    have h3 := X.same.trans h2
    rw [List.append_nil] at h3
    exact h3.mono hc hs
  refine ⟨U, ?_, .threw T.heap.size, hrun, hend, Or.inr ⟨T.heap.size, rfl, cls, ce, locs, hx U hWs.alike f1 (fun q hq => f2 q hq (fun z hz => nomatch hz)), hce, hO2, hcl, hWs, hall, hf⟩⟩
  refine st1 _ ?_
  show Steps p.tables e below (T1.setTop { method := m, pc := pc + 3, locals := ls, stack := .ref T.heap.size :: rest, locked := none }) _
  jvm_step X₁.here [X₁.here.top, hexec, d3', Value.category]
  exact X₁.ldcString hexec (own := own) (text := text) (index := is) (a := sa) hown' hstr'.1 hstr'.2
    (g := { method := m, pc := pc + 4, locals := ls, stack := .ref T.heap.size :: .ref T.heap.size :: rest, locked := none }) rfl d4' _ hsteps
end VXU
def ns_ : String := "java/util/NoSuchElementException"

def np_ : String := "no such person"
def nq_ : String := "nothing such is known of a person"
/-- what a throw needs beside the pool: its texts, the class, Throwable's statics -/
def Ep_ (sa sb : Nat) (A : Nat → Prop) (U : State) : Prop := (vk_R RX11 139 np_ sa U ∧ vk_R RX11 173 nq_ sb U) ∧ (va_Nw (.castable ns_ ns_) U ∧ va_Nw (.declares (Bundle.initS "java/lang/RuntimeException")) U ∧ va_Nw (.declares (Bundle.initS "java/lang/Exception")) U ∧ va_Nw (.declares (Bundle.initS Bundle.tN)) U) ∧ vx_Zq Bundle.tN "UNASSIGNED_STACK" Bundle.steD A U U.heap ∧ vx_Zq Bundle.tN "SUPPRESSED_SENTINEL" Bundle.listD A U U.heap
theorem Ep_.go {sa sb : Nat} {A B : Nat → Prop} {s U : State} (h : Ep_ sa sb A s) (hW : s.WarmedH U.vm) (hq : ∀ a : Nat, a < s.heap.size → ¬ A a → U.heap[a]? = s.heap[a]?) (hB : ∀ q, B q → A q) : Ep_ sa sb B U := ⟨⟨h.1.1.warm hW, h.1.2.warm hW⟩, ⟨h.2.1.1.warmC hW, h.2.1.2.1.warmD hW, h.2.1.2.2.1.warmD hW, h.2.1.2.2.2.warmD hW⟩, ((h.2.2.1.moved hW.alike).kept hq).narrow hB, ((h.2.2.2.moved hW.alike).kept hq).narrow hB⟩
theorem Ep_.same {sa sb : Nat} {A : Nat → Prop} {u U : State} (hv : u.vm = U.vm) (hh : u.heap = U.heap) (h : Ep_ sa sb A u) : Ep_ sa sb A U := by
  have ha : u.vm.Alike U.vm := by rw [hv]; exact Vm.Alike.refl _
  exact ⟨⟨h.1.1.same hv.symm, h.1.2.same hv.symm⟩, ⟨h.2.1.1.same rfl hv, h.2.1.2.1.same rfl hv, h.2.1.2.2.1.same rfl hv, h.2.1.2.2.2.same rfl hv⟩, (h.2.2.1.moved ha).kept (fun a _ _ => by rw [hh]), (h.2.2.2.moved ha).kept (fun a _ _ => by rw [hh])⟩
def sx_ : ByteArray := ⟨#[0x2a, 0x2b, 0xb7, 0x00, 0x0d, 0xb1]⟩
set_option maxRecDepth 100000 in
theorem xg_1 : ∀ w ∈ (xs_at RX11 141 ns_ 13 sx_ ["java/lang/RuntimeException", "java/lang/Exception"]).filter goodWord, w ∈ GT := gt_all (by decide +kernel)
set_option maxRecDepth 100000 in
theorem xg_2 : ∀ w ∈ (xs_at RX11 141 ns_ 13 sx_ ["java/lang/RuntimeException", "java/lang/Exception"]).filter (fun w => !goodWord w), w ∈ [Cond.castable ns_ ns_, Cond.declares (Bundle.initS "java/lang/RuntimeException"), Cond.declares (Bundle.initS "java/lang/Exception"), Cond.declares (Bundle.initS Bundle.tN)] := by decide +kernel
set_option maxRecDepth 100000 in
theorem xg_3 : ∀ w ∈ Cond.classLink RX11 137 ns_ :: Cond.initialized ns_ :: xs_at RX11 141 ns_ 13 sx_ ["java/lang/RuntimeException", "java/lang/Exception"], vx_ot w = true := by decide +kernel
theorem xw_1 : Cond.classLink RX11 137 ns_ ∈ GT ∧ Cond.initialized ns_ ∈ GT := ⟨gt_in 1273 (by decide +kernel) (by decide +kernel), gt_in 127 (by decide +kernel) (by decide +kernel)⟩
theorem xw_2 : Cond.classLink RL 13 ns_ ∈ GT := gt_in 1268 (by decide +kernel) (by decide +kernel)
def Pp_ (D : va_G) (cy : Nat → ClassId) (L : List Nat) (κ ln : Nat → Nat) (R : Nat → Nat → Option Nat) (I : Nat → Nat → Int32) (J : Nat → Nat → Int64) (sa sb sz : Nat) (U : State) : Prop := U.heap.size = sz ∧ Pu_ D cy L κ ln R I J U ∧ Ep_ sa sb (AN_ L sz) U
theorem Pp_blind {D : va_G} {cy : Nat → ClassId} {L : List Nat} {κ ln : Nat → Nat} {R : Nat → Nat → Option Nat} {I : Nat → Nat → Int32} {J : Nat → Nat → Int64} {sa sb sz : Nat} {av : List Value} : FrameBlind (va_Pc av (Pp_ D cy L κ ln R I J sa sb sz)) := fun a U g mk q => by
  obtain ⟨q0, q1, ⟨qP, qK, qN⟩, qE⟩ := q
  exact ⟨q0, q1, ⟨qP, va_K.moved (u := U) (U := U.calling g mk a) (Vm.Alike.refl U.vm) qK, qN⟩, Ep_.same rfl rfl qE⟩
def Xp_ (D : va_G) (cy : Nat → ClassId) (L : List Nat) (κ ln : Nat → Nat) (R : Nat → Nat → Option Nat) (I : Nat → Nat → Int32) (J : Nat → Nat → Int64) (sz : Nat) : String → State → State → Prop := vx_X (fun _ : Unit => True) (fun E _ t => E = ns_ ∧ Pu_ D cy L κ ln R I J t) (AN_ L sz)
def Yp_ (D : va_G) (cy : Nat → ClassId) (L : List Nat) (κ ln : Nat → Nat) (R : Nat → Nat → Option Nat) (I : Nat → Nat → Int32) (J : Nat → Nat → Int64) (sz : Nat) : Array Value → State → Outcome → State → Prop := va_Qi (fun (_ : Int32) (_ : Unit) => True) (fun _ t => Pu_ D cy L κ ln R I J t) (AN_ L sz)
set_option maxRecDepth 100000 in
set_option maxHeartbeats 8000000 in
theorem t_person {l : Launch} {D : va_G} {cy : Nat → ClassId} {L : List Nat} {κ ln : Nat → Nat} {R : Nat → Nat → Option Nat} {I : Nat → Nat → Int32} {J : Nat → Nat → Int64} {ow : Nat → Nat × Nat} (hst : l.stackTraces = false) (W9 : ∀ a ∈ L, Shp L κ ln R ow a) {x : Nat} (hLx : x ∈ L) (hkx : κ x = 11) (a0 a1 : Int32) (hU : Iv L κ R ow I) (sa sb sz : Nat) : vx_Met l yX11_person (Cond.code yX11_person cX11_person 3 (some .int) :: GT) { frames := 9, cells := 1, slots := 6, locals := 300 } (va_Pc [.ref x, .int a0, .int a1] (Pp_ D cy L κ ln R I J sa sb sz)) (Yp_ D cy L κ ln R I J sz) (Xp_ D cy L κ ln R I J sz) 1 6 (AN_ L sz) := by
  refine vx_ofW (cc := cX11_person) (maxL := 3) (ret := some .int) (by decide +kernel) rfl ?_
  intro p e s m args below meth c s₁ B hml htb hv
  obtain ⟨rfl, hsz, ⟨hP0, hK, hN⟩, hE⟩ := hv
  subst hsz
  have hts := atoms_spec (ws := Cond.code yX11_person cX11_person 3 (some .int) :: GT) B.pre
  have C : CallFix p m c cX11_person 3 s ([.ref x, .int a0, .int a1] : List Value).toArray GT RX11 := ⟨B.exec, B.bytes, hml, findClass_of_methodNamed B.named, fun w hw => hts w (List.mem_cons_of_mem _ hw)⟩
  have K : Wc_ D cy (AN_ L s.heap.size) L s := ⟨hN, fun q h => Or.inl h, hK⟩
  have G : WG p l e { frames := 9, cells := 1, slots := 6, locals := 300 } s m ([.ref x, .int a0, .int a1] : List Value).toArray below meth c 3 0 0 (vx_MQ below (Yp_ D cy L κ ln R I J s.heap.size) (Xp_ D cy L κ ln R I J s.heap.size) ([.ref x, .int a0, .int a1] : List Value).toArray s 1 6 (AN_ L s.heap.size)) D cy (AN_ L s.heap.size) s.heap L κ ln R I J 0 [(0, .ref x), (1, .int a0), (2, .int a1)] [] := by
    obtain ⟨b_1, hb_1, hb_1L, hb_1k⟩ := shp_o (W9 x hLx) hkx 2 1 rfl (by decide)
    obtain ⟨b_2, hb_2, hb_2L, hb_2k⟩ := shp_o (W9 x hLx) hkx 1 8 rfl (by decide)
    obtain ⟨b_3, hb_3, hb_3L, hb_3k, hb_3n, hb_3o⟩ := shp_a (W9 b_2 hb_2L) hb_2k 1 14 7 rfl (by decide)
    obtain ⟨b_4, hb_4, hb_4L, hb_4k, hb_4n, hb_4o⟩ := shp_a (W9 b_1 hb_1L) hb_1k 6 14 7 rfl (by decide)
    obtain ⟨b_5, hb_5, hb_5L, hb_5k, hb_5n, hb_5o⟩ := shp_a (W9 b_1 hb_1L) hb_1k 3 14 7 rfl (by decide)
    obtain ⟨b_6, hb_6, hb_6L, hb_6k, hb_6n, hb_6o⟩ := shp_a (W9 b_1 hb_1L) hb_1k 5 14 7 rfl (by decide)
    obtain ⟨b_7, hb_7, hb_7L, hb_7k, hb_7n, hb_7o⟩ := shp_a (W9 b_2 hb_2L) hb_2k 2 14 7 rfl (by decide)
    obtain ⟨b_8, hb_8, hb_8L, hb_8k, hb_8n, hb_8o⟩ := shp_a (W9 b_1 hb_1L) hb_1k 4 14 7 rfl (by decide)
    refine g_aload_n C 0 dX11_person_0 rfl rfl ?_
    refine g_getR C K hLx hkx f_11_19 hb_2 dX11_person_1 ?_
    refine g_iload_n C 1 dX11_person_4 rfl rfl ?_
    refine g_callVI C K (c_X8_hasPerson W9 hb_2L hb_2k a0  hU) hb_2L hb_2k (by decide) rfl v_11_133 rfl ⟨rfl, rfl⟩ ⟨Nat.le_of_ble_eq_true rfl, Nat.le_of_ble_eq_true rfl⟩ (Nat.le_of_ble_eq_true rfl) ⟨Nat.le_of_ble_eq_true rfl, Nat.le_of_ble_eq_true rfl⟩ dX11_person_5 rfl (st := []) (fun x_9 I_10 J_11 h_12 => ?_)
    obtain ⟨rfl, rfl, rx_9, ex_9⟩ := h_12
    refine g_if_ne C (tgt := 21) dX11_person_8 (by decide) (fun h_13 => ?_) (fun h_13 => ?_)
    · skip
      have n_14 : ¬ x_9 = 0 := h_13
      have r_15 := ne_lo (lo := 1) n_14 rx_9 rc_0 rfl (by decide)
      have r_16 := rg_i (rg_all a0) ((ex_9) n_14) (lo := 0) (hi := 6) (by decide) (by decide)
      refine g_iload_n C 2 dX11_person_21 rfl rfl ?_
      by_cases c_17 : a1.toInt = 0
      · skip
        have r_18 := rg_of (a := 0) (b := 0) 0 c_17 (by decide) (by decide)
        refine g_tableIn C (tgt := 72) dX11_person_22 (by omega) (by omega) (off := 50) (by rw [c_17]; rfl) (by decide) ?_
        refine g_aload_n C 0 dX11_person_72 rfl rfl ?_
        refine g_getR C K hLx hkx f_11_19 hb_2 dX11_person_73 ?_
        refine g_getR C K hb_2L hb_2k f_11_144 hb_3 dX11_person_76 ?_
        refine g_iload_n C 1 dX11_person_79 rfl rfl ?_
        obtain ⟨x_19, hx_19, rx_19⟩ := ex_any (z0 := I b_3 (a0.toNatClampNeg))
        refine h_iald C K hb_3L hb_3k (v := x_19) (a0.toNatClampNeg) (rfl) (ix_0 r_16 (by decide)) (ix_lt r_16 (by decide) hb_3n (by decide)) hx_19 dX11_person_80 ?_
        refine a_wide (k := 1) (n := 6) (Nat.le_of_ble_eq_true rfl) (Nat.le_of_ble_eq_true rfl) ?_
        intro H locs ls hP hS hl
        exact vx_ret (W.iret (v := x_19) C.1 C.2.1 B.returns (fun t ht hW => ⟨⟨x_19, (), rfl, trivial, ⟨by rw [ht]; exact hP, va_K.moved hW.alike hK, hN⟩⟩, hS.F ht⟩) hS.2.2 dX11_person_81 (hlocks := B.notSynchronized))
      by_cases c_20 : a1.toInt = 1
      · skip
        have r_21 := rg_of (a := 1) (b := 1) 1 c_20 (by decide) (by decide)
        refine g_tableIn C (tgt := 82) dX11_person_22 (by omega) (by omega) (off := 60) (by rw [c_20]; rfl) (by decide) ?_
        refine g_aload_n C 0 dX11_person_82 rfl rfl ?_
        refine g_getR C K hLx hkx f_11_19 hb_2 dX11_person_83 ?_
        refine g_getR C K hb_2L hb_2k f_11_148 hb_7 dX11_person_86 ?_
        refine g_iload_n C 1 dX11_person_89 rfl rfl ?_
        obtain ⟨x_22, hx_22, rx_22⟩ := ex_get (I := I) (a := b_7) (j := a0.toNatClampNeg) (lo := (-1)) (hi := 6) hU.1 hb_7L (ro_a hb_7k (by decide) hb_7o hb_2k rfl) (rfl)
        refine h_iald C K hb_7L hb_7k (v := x_22) (a0.toNatClampNeg) (rfl) (ix_0 r_16 (by decide)) (ix_lt r_16 (by decide) hb_7n (by decide)) hx_22 dX11_person_90 ?_
        refine a_wide (k := 1) (n := 6) (Nat.le_of_ble_eq_true rfl) (Nat.le_of_ble_eq_true rfl) ?_
        intro H locs ls hP hS hl
        exact vx_ret (W.iret (v := x_22) C.1 C.2.1 B.returns (fun t ht hW => ⟨⟨x_22, (), rfl, trivial, ⟨by rw [ht]; exact hP, va_K.moved hW.alike hK, hN⟩⟩, hS.F ht⟩) hS.2.2 dX11_person_91 (hlocks := B.notSynchronized))
      by_cases c_23 : a1.toInt = 2
      · skip
        have r_24 := rg_of (a := 2) (b := 2) 2 c_23 (by decide) (by decide)
        refine g_tableIn C (tgt := 92) dX11_person_22 (by omega) (by omega) (off := 70) (by rw [c_23]; rfl) (by decide) ?_
        refine g_aload_n C 0 dX11_person_92 rfl rfl ?_
        refine g_getR C K hLx hkx f_11_28 hb_1 dX11_person_93 ?_
        obtain ⟨x_25, hx_25, rx_25⟩ := ex_get (I := I) (a := b_1) (j := 7) (lo := (-2147483648)) (hi := 2147483647) hU.1 hb_1L (ro_o hb_1k (by decide)) rfl
        refine g_getI C K hb_1L hb_1k f_11_151 (v := x_25) hx_25 dX11_person_96 ?_
        refine g_iload_n C 1 dX11_person_99 rfl rfl ?_
        obtain ⟨x_26, hx_26, rx_26⟩ := ex_any (z0 := x_25 >>> (a0 &&& 31))
        refine g_ishr C (v := x_26) dX11_person_100 hx_26 ?_
        refine g_iconst C (v := 1) dX11_person_101 (by decide) ?_
        obtain ⟨x_27, hx_27, rx_27⟩ := ex_andr (x := x_26) (y := 1) (b := 1) (rg_w rc_1 (by decide) (by decide))
        refine g_iand C (v := x_27) dX11_person_102 hx_27 ?_
        refine a_wide (k := 1) (n := 6) (Nat.le_of_ble_eq_true rfl) (Nat.le_of_ble_eq_true rfl) ?_
        intro H locs ls hP hS hl
        exact vx_ret (W.iret (v := x_27) C.1 C.2.1 B.returns (fun t ht hW => ⟨⟨x_27, (), rfl, trivial, ⟨by rw [ht]; exact hP, va_K.moved hW.alike hK, hN⟩⟩, hS.F ht⟩) hS.2.2 dX11_person_103 (hlocks := B.notSynchronized))
      by_cases c_28 : a1.toInt = 3
      · skip
        have r_29 := rg_of (a := 3) (b := 3) 3 c_28 (by decide) (by decide)
        refine g_tableIn C (tgt := 104) dX11_person_22 (by omega) (by omega) (off := 82) (by rw [c_28]; rfl) (by decide) ?_
        refine g_aload_n C 0 dX11_person_104 rfl rfl ?_
        refine g_getR C K hLx hkx f_11_28 hb_1 dX11_person_105 ?_
        obtain ⟨x_30, hx_30, rx_30⟩ := ex_get (I := I) (a := b_1) (j := 8) (lo := (-2147483648)) (hi := 2147483647) hU.1 hb_1L (ro_o hb_1k (by decide)) rfl
        refine g_getI C K hb_1L hb_1k f_11_154 (v := x_30) hx_30 dX11_person_108 ?_
        refine g_iload_n C 1 dX11_person_111 rfl rfl ?_
        obtain ⟨x_31, hx_31, rx_31⟩ := ex_any (z0 := x_30 >>> (a0 &&& 31))
        refine g_ishr C (v := x_31) dX11_person_112 hx_31 ?_
        refine g_iconst C (v := 1) dX11_person_113 (by decide) ?_
        obtain ⟨x_32, hx_32, rx_32⟩ := ex_andr (x := x_31) (y := 1) (b := 1) (rg_w rc_1 (by decide) (by decide))
        refine g_iand C (v := x_32) dX11_person_114 hx_32 ?_
        refine a_wide (k := 1) (n := 6) (Nat.le_of_ble_eq_true rfl) (Nat.le_of_ble_eq_true rfl) ?_
        intro H locs ls hP hS hl
        exact vx_ret (W.iret (v := x_32) C.1 C.2.1 B.returns (fun t ht hW => ⟨⟨x_32, (), rfl, trivial, ⟨by rw [ht]; exact hP, va_K.moved hW.alike hK, hN⟩⟩, hS.F ht⟩) hS.2.2 dX11_person_115 (hlocks := B.notSynchronized))
      by_cases c_33 : a1.toInt = 4
      · skip
        have r_34 := rg_of (a := 4) (b := 4) 4 c_33 (by decide) (by decide)
        refine g_tableIn C (tgt := 116) dX11_person_22 (by omega) (by omega) (off := 94) (by rw [c_33]; rfl) (by decide) ?_
        refine g_aload_n C 0 dX11_person_116 rfl rfl ?_
        refine g_getR C K hLx hkx f_11_28 hb_1 dX11_person_117 ?_
        refine g_getR C K hb_1L hb_1k f_11_157 hb_8 dX11_person_120 ?_
        refine g_iload_n C 1 dX11_person_123 rfl rfl ?_
        obtain ⟨x_35, hx_35, rx_35⟩ := ex_any (z0 := I b_8 (a0.toNatClampNeg))
        refine h_iald C K hb_8L hb_8k (v := x_35) (a0.toNatClampNeg) (rfl) (ix_0 r_16 (by decide)) (ix_lt r_16 (by decide) hb_8n (by decide)) hx_35 dX11_person_124 ?_
        refine a_wide (k := 1) (n := 6) (Nat.le_of_ble_eq_true rfl) (Nat.le_of_ble_eq_true rfl) ?_
        intro H locs ls hP hS hl
        exact vx_ret (W.iret (v := x_35) C.1 C.2.1 B.returns (fun t ht hW => ⟨⟨x_35, (), rfl, trivial, ⟨by rw [ht]; exact hP, va_K.moved hW.alike hK, hN⟩⟩, hS.F ht⟩) hS.2.2 dX11_person_125 (hlocks := B.notSynchronized))
      by_cases c_36 : a1.toInt = 5
      · skip
        have r_37 := rg_of (a := 5) (b := 5) 5 c_36 (by decide) (by decide)
        refine g_tableIn C (tgt := 126) dX11_person_22 (by omega) (by omega) (off := 104) (by rw [c_36]; rfl) (by decide) ?_
        refine g_aload_n C 0 dX11_person_126 rfl rfl ?_
        refine g_getR C K hLx hkx f_11_28 hb_1 dX11_person_127 ?_
        refine g_getR C K hb_1L hb_1k f_11_160 hb_6 dX11_person_130 ?_
        refine g_iload_n C 1 dX11_person_133 rfl rfl ?_
        obtain ⟨x_38, hx_38, rx_38⟩ := ex_any (z0 := I b_6 (a0.toNatClampNeg))
        refine h_iald C K hb_6L hb_6k (v := x_38) (a0.toNatClampNeg) (rfl) (ix_0 r_16 (by decide)) (ix_lt r_16 (by decide) hb_6n (by decide)) hx_38 dX11_person_134 ?_
        refine a_wide (k := 1) (n := 6) (Nat.le_of_ble_eq_true rfl) (Nat.le_of_ble_eq_true rfl) ?_
        intro H locs ls hP hS hl
        exact vx_ret (W.iret (v := x_38) C.1 C.2.1 B.returns (fun t ht hW => ⟨⟨x_38, (), rfl, trivial, ⟨by rw [ht]; exact hP, va_K.moved hW.alike hK, hN⟩⟩, hS.F ht⟩) hS.2.2 dX11_person_135 (hlocks := B.notSynchronized))
      by_cases c_39 : a1.toInt = 6
      · skip
        have r_40 := rg_of (a := 6) (b := 6) 6 c_39 (by decide) (by decide)
        refine g_tableIn C (tgt := 136) dX11_person_22 (by omega) (by omega) (off := 114) (by rw [c_39]; rfl) (by decide) ?_
        refine g_aload_n C 0 dX11_person_136 rfl rfl ?_
        refine g_getR C K hLx hkx f_11_28 hb_1 dX11_person_137 ?_
        refine g_getR C K hb_1L hb_1k f_11_163 hb_4 dX11_person_140 ?_
        refine g_iload_n C 1 dX11_person_143 rfl rfl ?_
        obtain ⟨x_41, hx_41, rx_41⟩ := ex_any (z0 := I b_4 (a0.toNatClampNeg))
        refine h_iald C K hb_4L hb_4k (v := x_41) (a0.toNatClampNeg) (rfl) (ix_0 r_16 (by decide)) (ix_lt r_16 (by decide) hb_4n (by decide)) hx_41 dX11_person_144 ?_
        refine a_wide (k := 1) (n := 6) (Nat.le_of_ble_eq_true rfl) (Nat.le_of_ble_eq_true rfl) ?_
        intro H locs ls hP hS hl
        exact vx_ret (W.iret (v := x_41) C.1 C.2.1 B.returns (fun t ht hW => ⟨⟨x_41, (), rfl, trivial, ⟨by rw [ht]; exact hP, va_K.moved hW.alike hK, hN⟩⟩, hS.F ht⟩) hS.2.2 dX11_person_145 (hlocks := B.notSynchronized))
      by_cases c_42 : a1.toInt = 7
      · skip
        have r_43 := rg_of (a := 7) (b := 7) 7 c_42 (by decide) (by decide)
        refine g_tableIn C (tgt := 146) dX11_person_22 (by omega) (by omega) (off := 124) (by rw [c_42]; rfl) (by decide) ?_
        refine g_aload_n C 0 dX11_person_146 rfl rfl ?_
        refine g_getR C K hLx hkx f_11_28 hb_1 dX11_person_147 ?_
        refine g_getR C K hb_1L hb_1k f_11_166 hb_5 dX11_person_150 ?_
        refine g_iload_n C 1 dX11_person_153 rfl rfl ?_
        obtain ⟨x_44, hx_44, rx_44⟩ := ex_any (z0 := I b_5 (a0.toNatClampNeg))
        refine h_iald C K hb_5L hb_5k (v := x_44) (a0.toNatClampNeg) (rfl) (ix_0 r_16 (by decide)) (ix_lt r_16 (by decide) hb_5n (by decide)) hx_44 dX11_person_154 ?_
        refine a_wide (k := 1) (n := 6) (Nat.le_of_ble_eq_true rfl) (Nat.le_of_ble_eq_true rfl) ?_
        intro H locs ls hP hS hl
        exact vx_ret (W.iret (v := x_44) C.1 C.2.1 B.returns (fun t ht hW => ⟨⟨x_44, (), rfl, trivial, ⟨by rw [ht]; exact hP, va_K.moved hW.alike hK, hN⟩⟩, hS.F ht⟩) hS.2.2 dX11_person_155 (hlocks := B.notSynchronized))
      by_cases c_45 : a1.toInt = 8
      · skip
        have r_46 := rg_of (a := 8) (b := 8) 8 c_45 (by decide) (by decide)
        refine g_tableIn C (tgt := 156) dX11_person_22 (by omega) (by omega) (off := 134) (by rw [c_45]; rfl) (by decide) ?_
        refine g_aload_n C 0 dX11_person_156 rfl rfl ?_
        refine g_getR C K hLx hkx f_11_19 hb_2 dX11_person_157 ?_
        refine g_iload_n C 1 dX11_person_160 rfl rfl ?_
        refine g_callVI C K (c_X8_childrenOf W9 hb_2L hb_2k a0 (r_16) hU) hb_2L hb_2k (by decide) rfl v_11_169 rfl ⟨rfl, rfl⟩ ⟨Nat.le_of_ble_eq_true rfl, Nat.le_of_ble_eq_true rfl⟩ (Nat.le_of_ble_eq_true rfl) ⟨Nat.le_of_ble_eq_true rfl, Nat.le_of_ble_eq_true rfl⟩ dX11_person_161 rfl (st := []) (fun x_47 I_48 J_49 h_50 => ?_)
        obtain ⟨rfl, rfl, rx_47⟩ := h_50
        refine a_wide (k := 1) (n := 6) (Nat.le_of_ble_eq_true rfl) (Nat.le_of_ble_eq_true rfl) ?_
        intro H locs ls hP hS hl
        exact vx_ret (W.iret (v := x_47) C.1 C.2.1 B.returns (fun t ht hW => ⟨⟨x_47, (), rfl, trivial, ⟨by rw [ht]; exact hP, va_K.moved hW.alike hK, hN⟩⟩, hS.F ht⟩) hS.2.2 dX11_person_164 (hlocks := B.notSynchronized))
      obtain ⟨q_511, q_512⟩ := (rg_all a1)
      refine g_tableOut C (tgt := 165) dX11_person_22 (by omega) (by decide) ?_
      intro H locs ls hP hS hl
      exact xs_throw (ix := 13) (rx := sx_) C.1 C.2.1 hst (by decide +kernel) (by decide +kernel) (by decide +kernel) (by decide +kernel) C.2.2.2.1 (by decide +kernel) (by decide +kernel) (C.2.2.2.2 _ xw_1.1) (C.2.2.2.2 _ xw_1.2) hE.1.2 (vx_hat (fun w hw => C.2.2.2.2 _ (xg_1 w hw)) xg_2 (vx_c (va_Nw.use rfl hE.2.1.1) (vx_c (va_Nw.use rfl hE.2.1.2.1) (vx_c (va_Nw.use rfl hE.2.1.2.2.1) (vx_c (va_Nw.use rfl hE.2.1.2.2.2) vx_n))))) xg_3 hE.2.2.1 hE.2.2.2 hS (by rw [hml]; exact hl.1) dX11_person_165 dX11_person_168 dX11_person_169 dX11_person_171 dX11_person_174 (fun y hy => absurd hy (fun q => htb y q)) (Nat.le_of_ble_eq_true rfl) (Nat.le_of_ble_eq_true rfl) (Nat.le_of_ble_eq_true rfl) (Nat.le_of_ble_eq_true rfl) B.notSynchronized (fun t hvm hz hk9 => ⟨(), trivial, ⟨rfl, ⟨P_kept hP hk9, va_K.moved hvm hK, hN⟩⟩, ⟨Nat.le_trans hS.1 hz, fun q h1 h2 => (hk9 q (Nat.lt_of_lt_of_le h1 hS.1)).trans (hS.2.1 q h1 h2)⟩⟩) hS.2.2 (Nat.le_of_ble_eq_true rfl) (Nat.le_of_ble_eq_true rfl)
    · skip
      have r_52 := (⟨(rx_9).1, (eq_rg (h_13) rc_0).2⟩ : Rg 0 0 x_9)
      intro H locs ls hP hS hl
      exact xs_throw (ix := 13) (rx := sx_) C.1 C.2.1 hst (by decide +kernel) (by decide +kernel) (by decide +kernel) (by decide +kernel) C.2.2.2.1 (by decide +kernel) (by decide +kernel) (C.2.2.2.2 _ xw_1.1) (C.2.2.2.2 _ xw_1.2) hE.1.1 (vx_hat (fun w hw => C.2.2.2.2 _ (xg_1 w hw)) xg_2 (vx_c (va_Nw.use rfl hE.2.1.1) (vx_c (va_Nw.use rfl hE.2.1.2.1) (vx_c (va_Nw.use rfl hE.2.1.2.2.1) (vx_c (va_Nw.use rfl hE.2.1.2.2.2) vx_n))))) xg_3 hE.2.2.1 hE.2.2.2 hS (by rw [hml]; exact hl.1) dX11_person_11 dX11_person_14 dX11_person_15 dX11_person_17 dX11_person_20 (fun y hy => absurd hy (fun q => htb y q)) (Nat.le_of_ble_eq_true rfl) (Nat.le_of_ble_eq_true rfl) (Nat.le_of_ble_eq_true rfl) (Nat.le_of_ble_eq_true rfl) B.notSynchronized (fun t hvm hz hk9 => ⟨(), trivial, ⟨rfl, ⟨P_kept hP hk9, va_K.moved hvm hK, hN⟩⟩, ⟨Nat.le_trans hS.1 hz, fun q h1 h2 => (hk9 q (Nat.lt_of_lt_of_le h1 hS.1)).trans (hS.2.1 q h1 h2)⟩⟩) hS.2.2 (Nat.le_of_ble_eq_true rfl) (Nat.le_of_ble_eq_true rfl)
  rw [lg_entry_eq]
  exact G s.heap [] _ hP0 va_S.rf (lv_sub (lv_entry ([.ref x, .int a0, .int a1] : List Value) (Nat.le_of_ble_eq_true rfl)) [0, 1, 2] rfl)
theorem lw_cp : Cond.codeWith yL_person cL_person 5 (some .int) [(0, 10, 13, 13)] ∈ GT := gt_in 1267 (by decide +kernel) (by decide +kernel)
theorem lw_pv : Vw_ RL 7 RX11 yX11_person cX11_person 3 (some .int) 2 := ⟨gt_in 1269 (by decide +kernel) (by decide +kernel), gt_in 1270 (by decide +kernel) (by decide +kernel), gt_in 1271 (by decide +kernel) (by decide +kernel), gt_in 105 (by decide +kernel) (by decide +kernel), gt_in 1272 (by decide +kernel) (by decide +kernel), by decide +kernel⟩
def Zp_ (D : va_G) (cy : Nat → ClassId) (L : List Nat) (κ ln : Nat → Nat) (R : Nat → Nat → Option Nat) (I : Nat → Nat → Int32) (J : Nat → Nat → Int64) (oo sz : Nat) : Array Value → State → Outcome → State → Prop := va_Qi (fun (_ : Int32) (J2 : Nat → Nat → Int64) => ∀ a, a ≠ oo → J2 a = J a) (fun J2 t => Pu_ D cy L κ ln R I J2 t) (AN_ L sz)
set_option maxRecDepth 100000 in
set_option maxHeartbeats 8000000 in
theorem l_person {l : Launch} {D : va_G} {cy : Nat → ClassId} {L : List Nat} {κ ln : Nat → Nat} {R : Nat → Nat → Option Nat} {I : Nat → Nat → Int32} {J : Nat → Nat → Int64} {ow : Nat → Nat × Nat} (hst : l.stackTraces = false) (W9 : ∀ a ∈ L, Shp L κ ln R ow a) {x oo : Nat} (hLx : x ∈ L) (hkx : κ x = 11) (hoo : oo ∈ L) (hko : κ oo = 15) (hno : ln oo = 1) (a0 a1 : Int32) (hU : Iv L κ R ow I) (sa sb sz : Nat) : Met l yL_person (Cond.codeWith yL_person cL_person 5 (some .int) [(0, 10, 13, 13)] :: GT) { frames := 10, cells := 1, slots := 6, locals := 400 } (va_Pc [.ref x, .int a0, .int a1, .ref oo] (Pp_ D cy L κ ln R I J sa sb sz)) (Zp_ D cy L κ ln R I J oo sz) 1 6 (AN_ L sz) := by
  refine va_MetW (cc := cL_person) (maxL := 5) (ret := some .int) (hh := [(0, 10, 13, 13)]) (by decide +kernel) rfl ?_
  intro p e s m args below meth c s₁ B hml hv
  obtain ⟨rfl, hsz, ⟨hP0, hK, hN⟩, hE⟩ := hv
  subst hsz
  have hts := atoms_spec (ws := Cond.codeWith yL_person cL_person 5 (some .int) [(0, 10, 13, 13)] :: GT) B.pre
  have hct : c.exceptionTable.toList = tableOf [(0, 10, 13, 13)] := vx_table (x := yL_person) B (hts _ List.mem_cons_self)
  have C : CallFix p m c cL_person 5 s ([.ref x, .int a0, .int a1, .ref oo] : List Value).toArray GT RL := ⟨B.exec, B.bytes, hml, findClass_of_methodNamed B.named, fun w hw => hts w (List.mem_cons_of_mem _ hw)⟩
  have K : Wc_ D cy (AN_ L s.heap.size) L s := ⟨hN, fun q h => Or.inl h, hK⟩
  have G : WG p l e { frames := 10, cells := 1, slots := 6, locals := 400 } s m ([.ref x, .int a0, .int a1, .ref oo] : List Value).toArray below meth c 5 0 0 (MQ below (Zp_ D cy L κ ln R I J oo s.heap.size) ([.ref x, .int a0, .int a1, .ref oo] : List Value).toArray s 1 6 (AN_ L s.heap.size)) D cy (AN_ L s.heap.size) s.heap L κ ln R I J 0 [(0, .ref x), (1, .int a0), (2, .int a1), (3, .ref oo)] [] := by
    refine g_aload_n C 3 dL_person_0 rfl rfl ?_
    refine g_iconst C (v := 0) dL_person_1 (by decide) ?_
    refine g_aload_n C 0 dL_person_2 rfl rfl ?_
    refine g_iload_n C 1 dL_person_3 rfl rfl ?_
    refine g_iload_n C 2 dL_person_4 rfl rfl ?_
    intro H locs ls hP hS hl
    obtain ⟨q0, hq0⟩ := pl_at (f := cel_ cy κ ln R I J) hLx
    rw [cel_o hkx (by decide)] at hq0
    have hAN : ∀ q, AN_ L H.size q → AN_ L s.heap.size q := fun q h => h.elim Or.inl (fun h => Or.inr (Nat.le_trans hS.1 h))
    refine vx_calli (vx_runV (As := [.int a0, .int a1]) (rest := [.int 0, .ref oo]) C (t_person (sz := H.size) (sa := sa) (sb := sb) hst W9 hLx hkx a0 a1 hU) (cwV 2 C.2.2.2.2 (gi_V lw_pv) rfl rfl rfl lw_pv.2.2.2.2.2 ⟨Nat.le_of_ble_eq_true rfl, Nat.le_of_ble_eq_true rfl⟩) ⟨Pp_blind, va_recv hK hP rfl hq0, fun U hU hW => ⟨rfl, by rw [hU], ⟨by rw [hU]; exact hP, va_K.moved hW.alike hK, hN⟩, hE.go hW (fun a h1 h2 => by rw [hU]; exact hS.2.1 a h1 h2) hAN⟩⟩ rfl rfl hl.1 rfl (lv_room (Nat.le_of_ble_eq_true rfl)) dL_person_5 ⟨Nat.le_of_ble_eq_true rfl, Nat.le_of_ble_eq_true rfl⟩) hS (fun q _ h => hAN q h) hAN (fun q _ h => hAN q h) (fun E ce q9 u t H1 locs1 ht hvm _ hB hz1 hk1 hS1 hce hcv hcl => ?_) (fun r u t H1 locs1 ht hvm hw hB hz1 hk1 hS1 => ?_)
    · obtain ⟨rfl, hP1, -, -⟩ := hB
      rw [ht] at hP1
      refine vx_catch (name := ns_) C.2.2.2.1 [] ⟨0, 10, 13, 13⟩ [] (by rw [hct]; rfl) (fun z hz => absurd hz List.not_mem_nil) (by decide) (by decide) (C.2.2.2.2 _ xw_2) (va_Nw.use rfl hE.2.1.1) hce hcv hcl ?_
      have G2 : WG p l e { frames := 10, cells := 1, slots := 6, locals := 400 } s m ([.ref x, .int a0, .int a1, .ref oo] : List Value).toArray below meth c 5 1 6 (MQ below (Zp_ D cy L κ ln R I J oo s.heap.size) ([.ref x, .int a0, .int a1, .ref oo] : List Value).toArray s 1 6 (AN_ L s.heap.size)) D cy (AN_ L s.heap.size) s.heap L κ ln R I J 13 [(0, .ref x), (1, .int a0), (2, .int a1), (3, .ref oo)] [.ref q9] := by
        refine g_astore C dL_person_13 (by decide) (lo2 := [(4, .ref q9), (0, .ref x), (1, .int a0), (2, .int a1), (3, .ref oo)]) rfl ?_
        refine g_iconst C (v := 1) dL_person_15 (by decide) ?_
        intro H2 locs2 ls2 hP2 hS2 hl2
        exact W.iret (v := 1) C.1 C.2.1 B.returns (fun t ht hW => ⟨⟨1, J, rfl, fun _ _ => rfl, ⟨by rw [ht]; exact hP2, va_K.moved hW.alike hK, hN⟩⟩, hS2.F ht⟩) hS2.2.2 dL_person_16 (hlocks := B.notSynchronized)
      exact G2 H1 locs1 ls hP1 hS1 hl
    · obtain ⟨hP1, -, -⟩ := hB
      rw [ht] at hP1
      have G2 : WG p l e { frames := 10, cells := 1, slots := 6, locals := 400 } s m ([.ref x, .int a0, .int a1, .ref oo] : List Value).toArray below meth c 5 1 6 (MQ below (Zp_ D cy L κ ln R I J oo s.heap.size) ([.ref x, .int a0, .int a1, .ref oo] : List Value).toArray s 1 6 (AN_ L s.heap.size)) D cy (AN_ L s.heap.size) s.heap L κ ln R I J 8 [(0, .ref x), (1, .int a0), (2, .int a1), (3, .ref oo)] [.int r, .int 0, .ref oo] := by
        refine g_i2l C (v := Int32.toInt64 r) dL_person_8 rfl ?_
        refine h_last C K hoo hko 0 (by decide) (by decide) (by rw [hno]; decide) dL_person_9 (fun J2 hJ2 => ?_)
        refine g_goto C (tgt := 17) dL_person_10 (by decide) ?_
        refine g_iconst C (v := 0) dL_person_17 (by decide) ?_
        intro H2 locs2 ls2 hP2 hS2 hl2
        exact W.iret (v := 0) C.1 C.2.1 B.returns (fun t ht hW => ⟨⟨0, J2, rfl, fun a ha => by rw [hJ2]; exact u2_row ha, ⟨by rw [ht]; exact hP2, va_K.moved hW.alike hK, hN⟩⟩, hS2.F ht⟩) hS2.2.2 dL_person_18 (hlocks := B.notSynchronized)
      exact G2 H1 locs1 ls hP1 hS1 hl
  rw [lg_entry_eq]
  exact G s.heap [] _ hP0 va_S.rf (lv_sub (lv_entry ([.ref x, .int a0, .int a1, .ref oo] : List Value) (Nat.le_of_ble_eq_true rfl)) [0, 1, 2, 3] rfl)
theorem lw_sp : Cond.methodLink RL 38 yL_person ∈ GT ∧ Cond.static yL_person ∈ GT ∧ Cond.initialized yL_person.cls ∈ GT := ⟨gt_in 1265 (by decide +kernel) (by decide +kernel), gt_in 1266 (by decide +kernel) (by decide +kernel), gt_in 104 (by decide +kernel) (by decide +kernel)⟩
theorem gi_lp : GoodIn GT (va_wsS RL 38 yL_person (Cond.codeWith yL_person cL_person 5 (some .int) [(0, 10, 13, 13)] :: GT)) := by
  intro w hw
  have : w ∈ GT := by
    simp only [va_wsS, List.mem_append, List.mem_cons, List.not_mem_nil, or_false] at hw
    rcases hw with (e | e | e) | e | e
    · exact e ▸ lw_sp.1
    · exact e ▸ lw_sp.2.1
    · exact e ▸ lw_sp.2.2
    · exact e ▸ lw_cp
    · exact e
  exact ⟨this, gt_good this⟩
section GP
variable {p : Program} {l : Launch} {e : Env} {Rm : Room} {s : State} {m : MethodId} {args : Array Value} {below : List Frame} {meth : Method} {c : Code} {cells slots : Nat} {Q : State → Prop}
variable {cc : ByteArray} {pc nL : Nat} {D : va_G} {cy : Nat → ClassId} {A : Nat → Prop} {L Lx : List Nat} {κ ln : Nat → Nat} {R : Nat → Nat → Option Nat} {I : Nat → Nat → Int32} {J : Nat → Nat → Int64} {lo lo2 : List (Nat × Value)} {st : List Value}
variable {ow : Nat → Nat × Nat} {y : MethodName} {cc2 : ByteArray} {nL2 : Nat} {ret : Option FieldType} {rm : Room} {As : List Value} {b ci idx n N : Nat} {Cn : String} {T : u_T}
theorem s_person (C : CallFix p m c cc nL s args GT RL) (K : Wc_ D cy A L s) (hA : ∀ q, s.heap.size ≤ q → A q) (hsub : ∀ a ∈ Lx, a ∈ L) (hnd : Lx.Nodup) (hst : l.stackTraces = false) (W9 : ∀ a ∈ Lx, Shp Lx κ ln R ow a) {x oo : Nat} (hLx : x ∈ Lx) (hkx : κ x = 11) (hoo : oo ∈ Lx) (hko : κ oo = 15) (hno : ln oo = 1) (hU : Iv Lx κ R ow I) {p1 w : Int32} {sa sb : Nat} (hE : Ep_ sa sb A s) (hrm : 11 ≤ Rm.frames ∧ 424 ≤ Rm.locals) (hcat : (st.map fun v => v.category).sum ≤ 8) (hcs : cells + 1 ≤ Rm.cells ∧ slots + 6 ≤ Rm.slots) (hd : decode cc pc = .ok (.invokestatic 38, 3))
    (kk : ∀ (r : Int32) (J3 : Nat → Nat → Int64), (∀ a, a ≠ oo → J3 a = J a) → WG p l e Rm s m args below meth c nL (cells + 1) (slots + 6) Q D cy A s.heap L κ ln R I J3 (pc + 3) lo (.int r :: st)) : WG p l e Rm s m args below meth c nL cells slots Q D cy A s.heap L κ ln R I J pc lo (.ref oo :: .int w :: .int p1 :: .ref x :: st) := by
  intro H locs ls hP hS hl
  have hP' := pl_iff.mp hP
  have hPx : va_P D vwCl (va_pl Lx (cel_ cy κ ln R I J)) H := pl_iff.mpr (fun a ha => hP' a (hsub a ha))
  have hAN : ∀ q, AN_ Lx H.size q → A q := fun q h => h.elim (fun h => K.2.1 q (hsub q h)) (fun h => hA q (Nat.le_trans hS.1 h))
  refine va_calli (vx_runSW (As := [.ref x, .int p1, .int w, .ref oo]) (rest := st) C (l_person (sz := H.size) (sa := sa) (sb := sb) (oo := oo) hst W9 hLx hkx hoo hko hno p1 w hU) (vx_cwSW 4 C.2.2.2.2 gi_lp rfl rfl rfl (by decide +kernel) ⟨hrm.1, hrm.2⟩) ⟨Pp_blind, fun U hU hW => ⟨rfl, by rw [hU], ⟨by rw [hU]; exact hPx, va_K.moved hW.alike K.2.2, hnd⟩, hE.go hW (fun a h1 h2 => by rw [hU]; exact hS.2.1 a h1 h2) hAN⟩⟩ rfl rfl hl.1 rfl (lv_room hcat) hd hcs) hS (fun q _ h => hAN q h) (fun q h => hAN q h) (fun r u t H1 locs1 ht hvm hw1 hB hz1 hk1 hS1 => ?_)
  obtain ⟨hP1, -, -⟩ := hB
  rw [ht] at hP1
  have hP1' := pl_iff.mp hP1
  refine kk r (fun a => if a ∈ Lx then u a else J a) (fun a ha => by by_cases hx : a ∈ Lx <;> simp only [hx, if_true, if_false]; exact hw1 a ha) H1 locs1 ls (pl_iff.mpr (fun a ha => ?_)) hS1 hl
  by_cases hx : a ∈ Lx
  · rw [cel_cong (κ' := κ) (ln' := ln) (R' := R) (I' := I) (J' := u) rfl rfl (fun j => rfl) (fun j => by rw [if_pos hx]) (fun _ => rfl)]
    exact hP1' a hx
  · rw [cel_cong (κ' := κ) (ln' := ln) (R' := R) (I' := I) (J' := J) rfl rfl (fun j => rfl) (fun j => by rw [if_neg hx]) (fun _ => rfl)]
    exact (hP' a ha).kept (hk1 a (hP' a ha).lt (fun h => h.elim hx (fun h => absurd (hP' a ha).lt (Nat.not_lt.mpr h))))
end GP
