theorem dL_person_0 : decode cL_person 0 = .ok (.aload_n 3, 1) := by decide +kernel
theorem dL_person_1 : decode cL_person 1 = .ok (.iconst 0, 1) := by decide +kernel
theorem dL_person_2 : decode cL_person 2 = .ok (.aload_n 0, 1) := by decide +kernel
theorem dL_person_3 : decode cL_person 3 = .ok (.iload_n 1, 1) := by decide +kernel
theorem dL_person_4 : decode cL_person 4 = .ok (.iload_n 2, 1) := by decide +kernel
theorem dL_person_5 : decode cL_person 5 = .ok (.invokevirtual 7, 3) := by decide +kernel
theorem dL_person_13 : decode cL_person 13 = .ok (.astore 4, 2) := by decide +kernel
theorem dL_person_15 : decode cL_person 15 = .ok (.iconst 1, 1) := by decide +kernel
theorem dL_person_16 : decode cL_person 16 = .ok (.ireturn, 1) := by decide +kernel
theorem dX11_person_0 : decode cX11_person 0 = .ok (.aload_n 0, 1) := by decide +kernel
theorem dX11_person_1 : decode cX11_person 1 = .ok (.getfield 19, 3) := by decide +kernel
theorem dX11_person_4 : decode cX11_person 4 = .ok (.iload_n 1, 1) := by decide +kernel
theorem dX11_person_5 : decode cX11_person 5 = .ok (.invokevirtual 133, 3) := by decide +kernel
theorem dX11_person_8 : decode cX11_person 8 = .ok (.ifCond .ne 13, 3) := by decide +kernel
theorem dX11_person_11 : decode cX11_person 11 = .ok (.new 137, 3) := by decide +kernel
theorem dX11_person_14 : decode cX11_person 14 = .ok (.dup, 1) := by decide +kernel
theorem dX11_person_15 : decode cX11_person 15 = .ok (.ldc 139, 2) := by decide +kernel
theorem dX11_person_17 : decode cX11_person 17 = .ok (.invokespecial 141, 3) := by decide +kernel
theorem dX11_person_20 : decode cX11_person 20 = .ok (.athrow, 1) := by decide +kernel
section VXK
variable {p : Program} {l : Launch} {e : Env} {R : Room} {s : State} {m : MethodId} {args : Array Value} {below : List Frame} {meth : Method} {c : Code} {H : Heap} {locs : List Loc} {cells slots : Nat} {Q : State → Prop} {pc : Nat} {ls : Array Slot} {rest : List Value}
theorem vx_catch {own name : String} {E : String} {ce : Cell} {q : Addr} (hown : s.vm.findClass own = some m.cls) (pre : List ExceptionTableEntry) (x : ExceptionTableEntry) (suf : List ExceptionTableEntry) (hsplit : c.exceptionTable.toList = pre ++ x :: suf)
    (hpass : ∀ z ∈ pre, covers z pc = false ∨ (z.catchType ≠ 0 ∧ ∃ nm : String, (Cond.classLink own z.catchType nm).before args s = true ∧ va_Nc E nm s)) (hx : covers x pc = true) (h0 : x.catchType ≠ 0)
    (hlink : (Cond.classLink own x.catchType name).before args s = true) (hcast : (Cond.castable E name).before args s = true) (hcell : H[q]? = some ce) (hv : ce.vm = .none) (hcl : s.vm.findClass E = some ce.cls)
    (kk : W p l e R s m args below meth c H locs cells slots Q (F0 m x.handlerPc ls [.ref q])) : vx_W p l e R s m args below meth c H locs cells slots Q (F0 m pc ls rest) q := by
  intro T hT X
  have hpl : e.platform.magicAccessors = ({} : Platform).magicAccessors := by rw [X.admits.platform]
  obtain ⟨c3, c4, hc3, hc4, hasg⟩ := Cond.castable_spec hcast
  cases Option.some.inj (hc3.symm.trans hcl)
  obtain ⟨c5, hc5, hcl5⟩ := Cond.classLink_spec hown hlink e.platform hpl
  cases Option.some.inj (hc4.symm.trans hc5)
  obtain ⟨vm', X', st⟩ := Jvm.Stand.thenCaughtThrough X q (g := F0 m pc ls rest) rfl (Steps.refl _) (by rw [hT]; exact hcell) (by rw [hv]; rfl) (by obtain ⟨k9, h9, -⟩ := Vm.findClass_spec hcl; exact ⟨k9, h9⟩) pre x suf hsplit
    (fun z hz => by
      rcases hpass z hz with h | ⟨hz0, nm, hl1, hn1⟩
      · exact Or.inl h
      · obtain ⟨c6, hc6, hcl6⟩ := Cond.classLink_spec hown hl1 e.platform hpl
        obtain ⟨a8, b8, h1, h2, h3⟩ := hn1
        cases Option.some.inj (h1.symm.trans hcl)
        cases Option.some.inj (h2.symm.trans hc6)
        exact Or.inr ⟨hz0, _, hcl6, h3⟩) hx (Or.inr ⟨h0, c4, hcl5, hasg⟩)
  obtain ⟨t, a1, b1⟩ := kk (T.setVm vm') hT X'
  exact ⟨t, st.trans a1, b1⟩
end VXK
def ns_ : String := "java/util/NoSuchElementException"
def np_ : String := "no such person"
/-- what a throw needs beside the pool: its text, the class, Throwable's statics -/
def Ep_ (sa : Nat) (A : Nat → Prop) (U : State) : Prop := vk_R RX11 139 np_ sa U ∧ va_Nw (.castable ns_ ns_) U ∧ vx_Zq Bundle.tN "UNASSIGNED_STACK" Bundle.steD A U U.heap ∧ vx_Zq Bundle.tN "SUPPRESSED_SENTINEL" Bundle.listD A U U.heap
theorem Ep_.go {sa : Nat} {A B : Nat → Prop} {s U : State} (h : Ep_ sa A s) (hW : s.WarmedH U.vm) (hq : ∀ a : Nat, a < s.heap.size → ¬ A a → U.heap[a]? = s.heap[a]?) (hB : ∀ q, B q → A q) : Ep_ sa B U := ⟨h.1.warm hW, h.2.1.warmC hW, ((h.2.2.1.moved hW.alike).kept hq).narrow hB, ((h.2.2.2.moved hW.alike).kept hq).narrow hB⟩
theorem Ep_.same {sa : Nat} {A : Nat → Prop} {u U : State} (hv : u.vm = U.vm) (hh : u.heap = U.heap) (h : Ep_ sa A u) : Ep_ sa A U := by
  have ha : u.vm.Alike U.vm := by rw [hv]; exact Vm.Alike.refl _
  exact ⟨h.1.same hv.symm, h.2.1.same rfl hv, (h.2.2.1.moved ha).kept (fun a _ _ => by rw [hh]), (h.2.2.2.moved ha).kept (fun a _ _ => by rw [hh])⟩
set_option maxRecDepth 100000 in
theorem xg_1 : ∀ w ∈ (vx_atS RX11 141 ns_ ["java/lang/RuntimeException", "java/lang/Exception"]).filter goodWord, w ∈ GT := gt_all (by decide +kernel)
set_option maxRecDepth 100000 in
theorem xg_2 : ∀ w ∈ (vx_atS RX11 141 ns_ ["java/lang/RuntimeException", "java/lang/Exception"]).filter (fun w => !goodWord w), w ∈ [Cond.castable ns_ ns_] := by decide +kernel
set_option maxRecDepth 100000 in
theorem xg_3 : ∀ w ∈ Cond.classLink RX11 137 ns_ :: Cond.initialized ns_ :: vx_atS RX11 141 ns_ ["java/lang/RuntimeException", "java/lang/Exception"], vx_ot w = true := by decide +kernel
theorem xw_1 : Cond.classLink RX11 137 ns_ ∈ GT ∧ Cond.initialized ns_ ∈ GT := ⟨gt_in 1273 (by decide +kernel) (by decide +kernel), gt_in 127 (by decide +kernel) (by decide +kernel)⟩
theorem xw_2 : Cond.classLink RL 13 ns_ ∈ GT := gt_in 1268 (by decide +kernel) (by decide +kernel)
def Pp_ (D : va_G) (cy : Nat → ClassId) (L : List Nat) (κ ln : Nat → Nat) (R : Nat → Nat → Option Nat) (I : Nat → Nat → Int32) (J : Nat → Nat → Int64) (sa sz : Nat) (U : State) : Prop := U.heap.size = sz ∧ Pu_ D cy L κ ln R I J U ∧ Ep_ sa (AN_ L sz) U
theorem Pp_blind {D : va_G} {cy : Nat → ClassId} {L : List Nat} {κ ln : Nat → Nat} {R : Nat → Nat → Option Nat} {I : Nat → Nat → Int32} {J : Nat → Nat → Int64} {sa sz : Nat} {av : List Value} : FrameBlind (va_Pc av (Pp_ D cy L κ ln R I J sa sz)) := fun a U g mk q => by
  obtain ⟨q0, q1, ⟨qP, qK, qN⟩, qE⟩ := q
  exact ⟨q0, q1, ⟨qP, va_K.moved (u := U) (U := U.calling g mk a) (Vm.Alike.refl U.vm) qK, qN⟩, Ep_.same rfl rfl qE⟩
def Xp_ (D : va_G) (cy : Nat → ClassId) (L : List Nat) (κ ln : Nat → Nat) (R : Nat → Nat → Option Nat) (I : Nat → Nat → Int32) (J : Nat → Nat → Int64) (sz : Nat) : String → State → State → Prop := vx_X (fun _ : Unit => True) (fun E _ t => E = ns_ ∧ Pu_ D cy L κ ln R I J t) (AN_ L sz)
def Yp_ (L : List Nat) (sz : Nat) : Array Value → State → Outcome → State → Prop := va_Qi (fun (_ : Int32) (_ : Unit) => False) (fun _ _ => True) (AN_ L sz)
set_option maxRecDepth 100000 in
set_option maxHeartbeats 4000000 in
theorem t_person {l : Launch} {D : va_G} {cy : Nat → ClassId} {L : List Nat} {κ ln : Nat → Nat} {R : Nat → Nat → Option Nat} {I : Nat → Nat → Int32} {J : Nat → Nat → Int64} {ow : Nat → Nat × Nat} (hst : l.stackTraces = false) (W9 : ∀ a ∈ L, Shp L κ ln R ow a) {x : Nat} (hLx : x ∈ L) (hkx : κ x = 11) (FZ : Fz_ L κ I) (p1 w : Int32) (sa sz : Nat) : vx_Met l yX11_person (Cond.code yX11_person cX11_person 3 (some .int) :: GT) { frames := 9, cells := 1, slots := 6, locals := 300 } (va_Pc [.ref x, .int p1, .int w] (Pp_ D cy L κ ln R I J sa sz)) (Yp_ L sz) (Xp_ D cy L κ ln R I J sz) 1 6 (AN_ L sz) := by
  refine vx_ofW (cc := cX11_person) (maxL := 3) (ret := some .int) (by decide +kernel) rfl ?_
  intro p e s m args below meth c s₁ B hml htb hv
  obtain ⟨rfl, hsz, ⟨hP0, hK, hN⟩, hE⟩ := hv
  subst hsz
  have hts := atoms_spec (ws := Cond.code yX11_person cX11_person 3 (some .int) :: GT) B.pre
  have C : CallFix p m c cX11_person 3 s ([.ref x, .int p1, .int w] : List Value).toArray GT RX11 := ⟨B.exec, B.bytes, hml, findClass_of_methodNamed B.named, fun w hw => hts w (List.mem_cons_of_mem _ hw)⟩
  have K : Wc_ D cy (AN_ L s.heap.size) L s := ⟨hN, fun q h => Or.inl h, hK⟩
  have G : WG p l e { frames := 9, cells := 1, slots := 6, locals := 300 } s m ([.ref x, .int p1, .int w] : List Value).toArray below meth c 3 0 0 (vx_MQ below (Yp_ L s.heap.size) (Xp_ D cy L κ ln R I J s.heap.size) ([.ref x, .int p1, .int w] : List Value).toArray s 1 6 (AN_ L s.heap.size)) D cy (AN_ L s.heap.size) s.heap L κ ln R I J 0 [(0, .ref x), (1, .int p1), (2, .int w)] [] := by
    refine g_aload_n C 0 dX11_person_0 rfl rfl ?_
    obtain ⟨b, hb, hbL, hbk⟩ := shp_o (W9 x hLx) hkx 1 8 rfl (by decide)
    refine g_getR C K hLx hkx f_11_19 hb dX11_person_1 ?_
    refine g_iload_n C 1 dX11_person_4 rfl rfl ?_
    refine g_callVI C K (c_Table_hasPerson hbL hbk p1 0 (by rw [FZ b hbL 5, hbk]; rfl)) hbL hbk (by decide) rfl v_11_133 rfl ⟨rfl, rfl⟩ ⟨Nat.le_of_ble_eq_true rfl, Nat.le_of_ble_eq_true rfl⟩ (Nat.le_of_ble_eq_true rfl) ⟨Nat.le_of_ble_eq_true rfl, Nat.le_of_ble_eq_true rfl⟩ dX11_person_5 rfl (st := []) (fun r I2 J2 h => ?_)
    obtain ⟨rfl, rfl, er⟩ := h
    rw [z_hp] at er
    subst er
    refine n_if_ne C (tgt := 21) rfl dX11_person_8 (by decide) ?_
    intro H locs ls hP hS hl
    exact vx_throwS C.1 C.2.1 hst C.2.2.2.1 (by decide +kernel) (by decide +kernel) (C.2.2.2.2 _ xw_1.1) (C.2.2.2.2 _ xw_1.2) hE.1 (vx_hat (fun w hw => C.2.2.2.2 _ (xg_1 w hw)) xg_2 (vx_c (va_Nw.use rfl hE.2.1) vx_n)) xg_3 hE.2.2.1 hE.2.2.2 hS (by rw [hml]; exact hl.1) dX11_person_11 dX11_person_14 dX11_person_15 dX11_person_17 dX11_person_20 (fun y hy => absurd hy (fun q => htb y q)) (Nat.le_of_ble_eq_true rfl) (Nat.le_of_ble_eq_true rfl) (Nat.le_of_ble_eq_true rfl) (Nat.le_of_ble_eq_true rfl) B.notSynchronized (fun t hvm hz hk9 => ⟨(), trivial, ⟨rfl, ⟨P_kept hP hk9, va_K.moved hvm hK, hN⟩⟩, ⟨Nat.le_trans hS.1 hz, fun q h1 h2 => (hk9 q (Nat.lt_of_lt_of_le h1 hS.1)).trans (hS.2.1 q h1 h2)⟩⟩) hS.2.2 (Nat.le_of_ble_eq_true rfl) (Nat.le_of_ble_eq_true rfl)
  rw [lg_entry_eq]
  exact G s.heap [] _ hP0 va_S.rf (lv_sub (lv_entry ([.ref x, .int p1, .int w] : List Value) (Nat.le_of_ble_eq_true rfl)) [0, 1, 2] rfl)
theorem lw_cp : Cond.codeWith yL_person cL_person 5 (some .int) [(0, 10, 13, 13)] ∈ GT := gt_in 1267 (by decide +kernel) (by decide +kernel)
theorem lw_pv : Vw_ RL 7 RX11 yX11_person cX11_person 3 (some .int) 2 := ⟨gt_in 1269 (by decide +kernel) (by decide +kernel), gt_in 1270 (by decide +kernel) (by decide +kernel), gt_in 1271 (by decide +kernel) (by decide +kernel), gt_in 105 (by decide +kernel) (by decide +kernel), gt_in 1272 (by decide +kernel) (by decide +kernel), by decide +kernel⟩
def Zp_ (D : va_G) (cy : Nat → ClassId) (L : List Nat) (κ ln : Nat → Nat) (R : Nat → Nat → Option Nat) (I : Nat → Nat → Int32) (J : Nat → Nat → Int64) (sz : Nat) : Array Value → State → Outcome → State → Prop := va_Qi (fun r (_ : Unit) => r = 1) (fun _ t => Pu_ D cy L κ ln R I J t) (AN_ L sz)
set_option maxRecDepth 100000 in
set_option maxHeartbeats 4000000 in
theorem l_person {l : Launch} {D : va_G} {cy : Nat → ClassId} {L : List Nat} {κ ln : Nat → Nat} {R : Nat → Nat → Option Nat} {I : Nat → Nat → Int32} {J : Nat → Nat → Int64} {ow : Nat → Nat × Nat} (hst : l.stackTraces = false) (W9 : ∀ a ∈ L, Shp L κ ln R ow a) {x oo : Nat} (hLx : x ∈ L) (hkx : κ x = 11) (FZ : Fz_ L κ I) (p1 w : Int32) (sa sz : Nat) : Met l yL_person (Cond.codeWith yL_person cL_person 5 (some .int) [(0, 10, 13, 13)] :: GT) { frames := 10, cells := 1, slots := 6, locals := 400 } (va_Pc [.ref x, .int p1, .int w, .ref oo] (Pp_ D cy L κ ln R I J sa sz)) (Zp_ D cy L κ ln R I J sz) 1 6 (AN_ L sz) := by
  refine va_MetW (cc := cL_person) (maxL := 5) (ret := some .int) (hh := [(0, 10, 13, 13)]) (by decide +kernel) rfl ?_
  intro p e s m args below meth c s₁ B hml hv
  obtain ⟨rfl, hsz, ⟨hP0, hK, hN⟩, hE⟩ := hv
  subst hsz
  have hts := atoms_spec (ws := Cond.codeWith yL_person cL_person 5 (some .int) [(0, 10, 13, 13)] :: GT) B.pre
  have hct : c.exceptionTable.toList = tableOf [(0, 10, 13, 13)] := vx_table B (hts _ List.mem_cons_self)
  have C : CallFix p m c cL_person 5 s ([.ref x, .int p1, .int w, .ref oo] : List Value).toArray GT RL := ⟨B.exec, B.bytes, hml, findClass_of_methodNamed B.named, fun w hw => hts w (List.mem_cons_of_mem _ hw)⟩
  have K : Wc_ D cy (AN_ L s.heap.size) L s := ⟨hN, fun q h => Or.inl h, hK⟩
  have G : WG p l e { frames := 10, cells := 1, slots := 6, locals := 400 } s m ([.ref x, .int p1, .int w, .ref oo] : List Value).toArray below meth c 5 0 0 (MQ below (Zp_ D cy L κ ln R I J s.heap.size) ([.ref x, .int p1, .int w, .ref oo] : List Value).toArray s 1 6 (AN_ L s.heap.size)) D cy (AN_ L s.heap.size) s.heap L κ ln R I J 0 [(0, .ref x), (1, .int p1), (2, .int w), (3, .ref oo)] [] := by
    refine g_aload_n C 3 dL_person_0 rfl rfl ?_
    refine g_iconst C (v := 0) dL_person_1 (by decide) ?_
    refine g_aload_n C 0 dL_person_2 rfl rfl ?_
    refine g_iload_n C 1 dL_person_3 rfl rfl ?_
    refine g_iload_n C 2 dL_person_4 rfl rfl ?_
    intro H locs ls hP hS hl
    obtain ⟨q0, hq0⟩ := pl_at (f := cel_ cy κ ln R I J) hLx
    rw [cel_o hkx (by decide)] at hq0
    have hAN : ∀ q, AN_ L H.size q → AN_ L s.heap.size q := fun q h => h.elim Or.inl (fun h => Or.inr (Nat.le_trans hS.1 h))
    refine vx_calli (vx_runV (As := [.int p1, .int w]) (rest := [.int 0, .ref oo]) C (t_person (sz := H.size) (sa := sa) hst W9 hLx hkx FZ p1 w) (cwV 2 C.2.2.2.2 (gi_V lw_pv) rfl rfl rfl lw_pv.2.2.2.2.2 ⟨Nat.le_of_ble_eq_true rfl, Nat.le_of_ble_eq_true rfl⟩) ⟨Pp_blind, va_recv hK hP rfl hq0, fun U hU hW => ⟨rfl, by rw [hU], ⟨by rw [hU]; exact hP, va_K.moved hW.alike hK, hN⟩, hE.go hW (fun a h1 h2 => by rw [hU]; exact hS.2.1 a h1 h2) hAN⟩⟩ rfl rfl hl.1 rfl (lv_room (Nat.le_of_ble_eq_true rfl)) dL_person_5 ⟨Nat.le_of_ble_eq_true rfl, Nat.le_of_ble_eq_true rfl⟩) hS (fun q _ h => hAN q h) hAN (fun q _ h => hAN q h) (fun E ce q9 u t H1 locs1 ht hvm _ hB hz1 hk1 hS1 hce hcv hcl => ?_) (fun r u t H1 locs1 ht hvm hw hB hz1 hk1 hS1 => absurd hw id)
    obtain ⟨rfl, hP1, -, -⟩ := hB
    rw [ht] at hP1
    refine vx_catch (x := ⟨0, 10, 13, 13⟩) (name := ns_) C.2.2.2.1 [] _ [] (by rw [hct]; rfl) (fun z hz => absurd hz List.not_mem_nil) (by decide) (by decide) (C.2.2.2.2 _ xw_2) (va_Nw.use rfl hE.2.1) hce hcv hcl ?_
    have G2 : WG p l e { frames := 10, cells := 1, slots := 6, locals := 400 } s m ([.ref x, .int p1, .int w, .ref oo] : List Value).toArray below meth c 5 1 6 (MQ below (Zp_ D cy L κ ln R I J s.heap.size) ([.ref x, .int p1, .int w, .ref oo] : List Value).toArray s 1 6 (AN_ L s.heap.size)) D cy (AN_ L s.heap.size) s.heap L κ ln R I J 13 [(0, .ref x), (1, .int p1), (2, .int w), (3, .ref oo)] [.ref q9] := by
      refine g_astore C dL_person_13 (by decide) (lo2 := [(4, .ref q9), (0, .ref x), (1, .int p1), (2, .int w), (3, .ref oo)]) rfl ?_
      refine g_iconst C (v := 1) dL_person_15 (by decide) ?_
      intro H2 locs2 ls2 hP2 hS2 hl2
      exact W.iret (v := 1) C.1 C.2.1 B.returns (fun t ht hW => ⟨⟨1, (), rfl, rfl, ⟨by rw [ht]; exact hP2, va_K.moved hW.alike hK, hN⟩⟩, hS2.F ht⟩) hS2.2.2 dL_person_16 (hlocks := B.notSynchronized)
    exact G2 H1 locs1 ls hP1 hS1 hl
  rw [lg_entry_eq]
  exact G s.heap [] _ hP0 va_S.rf (lv_sub (lv_entry ([.ref x, .int p1, .int w, .ref oo] : List Value) (Nat.le_of_ble_eq_true rfl)) [0, 1, 2, 3] rfl)
