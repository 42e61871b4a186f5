/-! contracts over a pool and a world E beside it -/
def Px_ (D : va_G) (cy : Nat → ClassId) (L : List Nat) (κ ln : Nat → Nat) (R : Nat → Nat → Option Nat) (I : Nat → Nat → Int32) (J : Nat → Nat → Int64) (E : State → Prop) (U : State) : Prop := Pu_ D cy L κ ln R I J U ∧ E U
theorem Px_blind {D : va_G} {cy : Nat → ClassId} {L : List Nat} {κ ln : Nat → Nat} {R : Nat → Nat → Option Nat} {I : Nat → Nat → Int32} {J : Nat → Nat → Int64} {E : State → Prop} {av : List Value} (hE : ∀ (u U : State), u.vm = U.vm → u.heap = U.heap → E u → E U) : FrameBlind (va_Pc av (Px_ D cy L κ ln R I J E)) := fun a U g mk q => by
  obtain ⟨q0, ⟨qP, qK, qN⟩, qE⟩ := q
  exact ⟨q0, ⟨qP, va_K.moved (u := U) (U := U.calling g mk a) (Vm.Alike.refl U.vm) qK, qN⟩, hE U _ rfl rfl qE⟩
def CxI (l : Launch) (y : MethodName) (cc : ByteArray) (nL : Nat) (ret : Option FieldType) (rm : Room) (D : va_G) (cy : Nat → ClassId) (L : List Nat) (κ ln : Nat → Nat) (R : Nat → Nat → Option Nat) (I : Nat → Nat → Int32) (J : Nat → Nat → Int64) (E : State → Prop) (av : List Value) (post : Int32 → (Nat → Nat → Int32) → (Nat → Nat → Int64) → Prop) : Prop :=
  Met l y (Cond.code y cc nL ret :: GT) rm (va_Pc av (Px_ D cy L κ ln R I J E)) (Qi_ D cy L κ ln R post) 0 0 (Al_ L)
theorem CxI.of {l : Launch} {y : MethodName} {cc : ByteArray} {nL : Nat} {ret : Option FieldType} {rm : Room} {D : va_G} {cy : Nat → ClassId} {L : List Nat} {κ ln : Nat → Nat} {R : Nat → Nat → Option Nat} {I : Nat → Nat → Int32} {J : Nat → Nat → Int64} {E : State → Prop} {av : List Value} {post : Int32 → (Nat → Nat → Int32) → (Nat → Nat → Int64) → Prop} (hy : plainName y.cls = true) (hn : (lg_sl av).length ≤ nL)
    (body : ∀ p e s m below meth c, Bd_ p s m av.toArray meth c cc nL y ret → Wc_ D cy (Al_ L) L s → E s → WG p l e rm s m av.toArray below meth c nL 0 0 (MQ below (Qi_ D cy L κ ln R post) av.toArray s 0 0 (Al_ L)) D cy (Al_ L) s.heap L κ ln R I J 0 (lv_args 0 av) []) : CxI l y cc nL ret rm D cy L κ ln R I J E av post := by
  refine Met.ofW (cc := cc) (maxL := nL) (ret := ret) hy rfl ?_
  intro p e s m args below meth c s₁ B hml hv
  obtain ⟨rfl, ⟨hP, hK, hN⟩, hE⟩ := hv
  have hts := atoms_spec (ws := Cond.code y cc nL ret :: GT) B.pre
  have hb : Bd_ p s m av.toArray meth c cc nL y ret := ⟨⟨B.exec, B.bytes, hml, findClass_of_methodNamed B.named, fun w hw => hts w (List.mem_cons_of_mem _ hw)⟩, B.returns, B.notSynchronized, (name_of_methodNamed B.named B.method).1⟩
  have h1 := body p e s m below meth c hb ⟨hN, fun q h => h, hK⟩ hE
  rw [lg_entry_eq]
  exact h1 s.heap [] _ hP va_S.rf (lv_entry av hn)
def CxV (l : Launch) (y : MethodName) (cc : ByteArray) (nL : Nat) (ret : Option FieldType) (rm : Room) (D : va_G) (cy : Nat → ClassId) (L : List Nat) (κ ln : Nat → Nat) (R : Nat → Nat → Option Nat) (I : Nat → Nat → Int32) (J : Nat → Nat → Int64) (E : State → Prop) (av : List Value) (post : (Nat → Nat → Int32) → (Nat → Nat → Int64) → Prop) : Prop :=
  Met l y (Cond.code y cc nL ret :: GT) rm (va_Pc av (Px_ D cy L κ ln R I J E)) (Qv_ D cy L κ ln R post) 0 0 (Al_ L)
theorem CxV.of {l : Launch} {y : MethodName} {cc : ByteArray} {nL : Nat} {ret : Option FieldType} {rm : Room} {D : va_G} {cy : Nat → ClassId} {L : List Nat} {κ ln : Nat → Nat} {R : Nat → Nat → Option Nat} {I : Nat → Nat → Int32} {J : Nat → Nat → Int64} {E : State → Prop} {av : List Value} {post : (Nat → Nat → Int32) → (Nat → Nat → Int64) → Prop} (hy : plainName y.cls = true) (hn : (lg_sl av).length ≤ nL)
    (body : ∀ p e s m below meth c, Bd_ p s m av.toArray meth c cc nL y ret → Wc_ D cy (Al_ L) L s → E s → WG p l e rm s m av.toArray below meth c nL 0 0 (MQ below (Qv_ D cy L κ ln R post) av.toArray s 0 0 (Al_ L)) D cy (Al_ L) s.heap L κ ln R I J 0 (lv_args 0 av) []) : CxV l y cc nL ret rm D cy L κ ln R I J E av post := by
  refine Met.ofW (cc := cc) (maxL := nL) (ret := ret) hy rfl ?_
  intro p e s m args below meth c s₁ B hml hv
  obtain ⟨rfl, ⟨hP, hK, hN⟩, hE⟩ := hv
  have hts := atoms_spec (ws := Cond.code y cc nL ret :: GT) B.pre
  have hb : Bd_ p s m av.toArray meth c cc nL y ret := ⟨⟨B.exec, B.bytes, hml, findClass_of_methodNamed B.named, fun w hw => hts w (List.mem_cons_of_mem _ hw)⟩, B.returns, B.notSynchronized, (name_of_methodNamed B.named B.method).1⟩
  have h1 := body p e s m below meth c hb ⟨hN, fun q h => h, hK⟩ hE
  rw [lg_entry_eq]
  exact h1 s.heap [] _ hP va_S.rf (lv_entry av hn)
section GX
variable {p : Program} {l : Launch} {e : Env} {Rm : Room} {s : State} {m : MethodId} {args : Array Value} {below : List Frame} {meth : Method} {c : Code} {cells slots : Nat} {Q : State → Prop}
variable {cc : ByteArray} {pc nL : Nat} {own : String} {D : va_G} {cy : Nat → ClassId} {A : Nat → Prop} {H0 : Heap} {L Lx : List Nat} {κ ln : Nat → Nat} {R : Nat → Nat → Option Nat} {I : Nat → Nat → Int32} {J : Nat → Nat → Int64} {lo lo2 : List (Nat × Value)} {st : List Value}
variable {y : MethodName} {cc2 : ByteArray} {nL2 : Nat} {ret : Option FieldType} {rm : Room} {As : List Value} {b ci idx n N : Nat} {Cn : String} {T : u_T} {E : State → Prop}
theorem x_callVV (C : CallFix p m c cc nL s args GT own) (K : Wc_ D cy A L s) {post : (Nat → Nat → Int32) → (Nat → Nat → Int64) → Prop} (hM : CxV l y cc2 nL2 ret rm D cy L κ ln R I J E (.ref b :: As) post) (hEb : ∀ (u U : State), u.vm = U.vm → u.heap = U.heap → E u → E U) (hE : ∀ (H : Heap) (locs : List Loc) (U : State), va_S A H0 H locs → U.heap = H → s.WarmedH U.vm → E U) (hb9 : b ∈ L) (hkb : κ b = ci) (hci : ci < 13) (hcl : vwCl[ci]? = some (Cn, T, N)) (hw : Vw_ own idx Cn y cc2 nL2 ret n) (hn : As.length = n) (hr0 : rm.cells = 0 ∧ rm.slots = 0) (hrm : rm.frames + 1 ≤ Rm.frames ∧ 8 + (nL2 + 11) + rm.locals ≤ Rm.locals) (hcat : (st.map fun v => v.category).sum ≤ 8) (hcs : cells + 0 ≤ Rm.cells ∧ slots + 0 ≤ Rm.slots) (hd : decode cc pc = .ok (.invokevirtual idx, 3)) {st0 : List Value} (hst : st0 = As.reverse ++ .ref b :: st)
    (kk : ∀ (I2 : Nat → Nat → Int32) (J2 : Nat → Nat → Int64), post I2 J2 → WG p l e Rm s m args below meth c nL cells slots Q D cy A H0 L κ ln R I2 J2 (pc + 3) lo st) : WG p l e Rm s m args below meth c nL cells slots Q D cy A H0 L κ ln R I J pc lo st0 := by
  intro H locs ls hP hS hl
  subst hst
  obtain ⟨q, hq⟩ := pl_at (f := cel_ cy κ ln R I J) hb9
  rw [cel_o hkb hci] at hq
  refine va_callv (va_runV (As := As) (rest := st) C hM (cwV n C.2.2.2.2 (gi_V hw) rfl hr0.1 hr0.2 hw.2.2.2.2.2 hrm) ⟨Px_blind hEb, va_recv K.2.2 hP hcl hq, fun U hU hW => ⟨rfl, ⟨by rw [hU]; exact hP, va_K.moved hW.alike K.2.2, K.1⟩, hE H locs U hS hU hW⟩⟩ rfl hn hl.1 rfl (lv_room hcat) hd hcs) hS (fun q _ h => K.2.1 q h) (fun q h => K.2.1 q h) (fun u t H1 locs1 ht hvm hw1 hB hz1 hk1 hS1 => ?_)
  obtain ⟨hP1, -, -⟩ := hB
  rw [ht] at hP1
  exact kk u.1 u.2 hw1 H1 locs1 ls hP1 hS1 hl
theorem s_callXI (C : CallFix p m c cc nL s args GT own) (K : Wc_ D cy A L s) (hsub : ∀ a ∈ Lx, a ∈ L) (hnd : Lx.Nodup) {post : Int32 → (Nat → Nat → Int32) → (Nat → Nat → Int64) → Prop} (hM : CxI l y cc2 nL2 ret rm D cy Lx κ ln R I J E (.ref b :: As) post) (hEb : ∀ (u U : State), u.vm = U.vm → u.heap = U.heap → E u → E U) (hE : ∀ (H : Heap) (locs : List Loc) (U : State), va_S A H0 H locs → U.heap = H → s.WarmedH U.vm → E U) (hb9 : b ∈ Lx) (hkb : κ b = ci) (hci : ci < 13) (hcl : vwCl[ci]? = some (Cn, T, N)) (hw : Vw_ own idx Cn y cc2 nL2 ret n) (hn : As.length = n) (hr0 : rm.cells = 0 ∧ rm.slots = 0) (hrm : rm.frames + 1 ≤ Rm.frames ∧ 8 + (nL2 + 11) + rm.locals ≤ Rm.locals) (hcat : (st.map fun v => v.category).sum ≤ 8) (hcs : cells + 0 ≤ Rm.cells ∧ slots + 0 ≤ Rm.slots) (hd : decode cc pc = .ok (.invokevirtual idx, 3)) {st0 : List Value} (hst : st0 = As.reverse ++ .ref b :: st)
    (kk : ∀ (r : Int32) (I2 : Nat → Nat → Int32) (J2 : Nat → Nat → Int64), post r I2 J2 → ∀ (I3 : Nat → Nat → Int32) (J3 : Nat → Nat → Int64), (∀ a ∈ Lx, I3 a = I2 a) → (∀ a, a ∉ Lx → I3 a = I a) → (∀ a ∈ Lx, J3 a = J2 a) → (∀ a, a ∉ Lx → J3 a = J a) → WG p l e Rm s m args below meth c nL cells slots Q D cy A H0 L κ ln R I3 J3 (pc + 3) lo (.int r :: st)) : WG p l e Rm s m args below meth c nL cells slots Q D cy A H0 L κ ln R I J pc lo st0 := by
  intro H locs ls hP hS hl
  subst hst
  have hP' := pl_iff.mp hP
  have hPx : va_P D vwCl (va_pl Lx (cel_ cy κ ln R I J)) H := pl_iff.mpr (fun a ha => hP' a (hsub a ha))
  obtain ⟨q, hq⟩ := pl_at (f := cel_ cy κ ln R I J) hb9
  rw [cel_o hkb hci] at hq
  refine va_calli (va_runV (As := As) (rest := st) C hM (cwV n C.2.2.2.2 (gi_V hw) rfl hr0.1 hr0.2 hw.2.2.2.2.2 hrm) ⟨Px_blind hEb, va_recv K.2.2 hPx hcl hq, fun U hU hW => ⟨rfl, ⟨by rw [hU]; exact hPx, va_K.moved hW.alike K.2.2, hnd⟩, hE H locs U hS hU hW⟩⟩ rfl hn hl.1 rfl (lv_room hcat) hd hcs) hS (fun q _ h => K.2.1 q (hsub q h)) (fun q h => K.2.1 q (hsub q h)) (fun r u t H1 locs1 ht hvm hw1 hB hz1 hk1 hS1 => ?_)
  obtain ⟨hP1, -, -⟩ := hB
  rw [ht] at hP1
  have hP1' := pl_iff.mp hP1
  refine kk r u.1 u.2 hw1 (fun a => if a ∈ Lx then u.1 a else I a) (fun a => if a ∈ Lx then u.2 a else J a) (fun a ha => if_pos ha) (fun a ha => if_neg ha) (fun a ha => if_pos ha) (fun a ha => if_neg ha) H1 locs1 ls (pl_iff.mpr (fun a ha => ?_)) hS1 hl
  by_cases hx : a ∈ Lx
  · rw [cel_cong (κ' := κ) (ln' := ln) (R' := R) (I' := u.1) (J' := u.2) rfl rfl (fun j => by rw [if_pos hx]) (fun j => by rw [if_pos hx]) (fun _ => rfl)]
    exact hP1' a hx
  · rw [cel_cong (κ' := κ) (ln' := ln) (R' := R) (I' := I) (J' := J) rfl rfl (fun j => by rw [if_neg hx]) (fun j => by rw [if_neg hx]) (fun _ => rfl)]
    exact (hP' a ha).kept (hk1 a (hP' a ha).lt hx)
theorem e_ldcSw (C : CallFix p m c cc nL s args GT own) {tx : String} {idx q : Nat} (hZ : vk_R own idx tx q s) (hd : decode cc pc = .ok (.ldc_w idx, 3)) (kk : WG p l e Rm s m args below meth c nL cells slots Q D cy A H0 L κ ln R I J (pc + 3) lo (.ref q :: st)) : WG p l e Rm s m args below meth c nL cells slots Q D cy A H0 L κ ln R I J pc lo st := by
  intro H locs ls hP hS hl T0 hT X
  obtain ⟨t, a1, b1⟩ := kk H locs ls hP hS hl T0 hT X
  exact ⟨t, Jvm.Stand.ldcStringW X C.1 C.2.2.2.1 (text := tx) (a := q) hZ.1 hZ.2 (g := F0 m pc ls st) rfl (by rw [C.2.1]; exact hd) t a1, b1⟩
end GX
theorem ev11_length : Vw_ RX11 326 "java/lang/String" yJ0_length_8abf5 cJ0_length_8abf5 1 (some .int) 0 := ⟨gt_in 1092 (by decide +kernel) (by decide +kernel), gt_in 145 (by decide +kernel) (by decide +kernel), gt_in 146 (by decide +kernel) (by decide +kernel), gt_in 107 (by decide +kernel) (by decide +kernel), gt_in 147 (by decide +kernel) (by decide +kernel), by decide +kernel⟩
theorem ev11_charAt : Vw_ RX11 330 "java/lang/String" yJ0_charAt_5068e cJ0_charAt_5068e 2 (some .char) 1 := ⟨gt_in 1093 (by decide +kernel) (by decide +kernel), gt_in 155 (by decide +kernel) (by decide +kernel), gt_in 156 (by decide +kernel) (by decide +kernel), gt_in 107 (by decide +kernel) (by decide +kernel), gt_in 157 (by decide +kernel) (by decide +kernel), by decide +kernel⟩
theorem dv_10 {b : Int} {x y z : Int32} (hy : Rg 1 b y) (hz : x / y = z) (h : (10 : Int32) ≤ z) : Rg 1 214748364 y := by
  have h10 := Int32.le_iff_toInt_le.mp h
  have e10 : (10 : Int32).toInt = 10 := by decide
  have hx := x.toInt_lt
  have hy1 := hy.1
  rw [e10] at h10
  rcases Int.le_total 0 x.toInt with h0 | h0
  · have e := i_div (x := x) (y := y) h0 (by omega)
    rw [hz] at e
    have q1 : 10 * y.toInt ≤ x.toInt := (Int.le_ediv_iff_mul_le (by omega)).mp (by omega)
    unfold Rg; omega
  · have hn : x.toInt.tdiv y.toInt = -((-x.toInt) / y.toInt) := by
      have e1 : x.toInt = -(-x.toInt) := by omega
      rw [e1, Int.neg_tdiv, Int.tdiv_eq_ediv_of_nonneg (by omega)]
      simp
    have q1 : 0 ≤ (-x.toInt) / y.toInt := Int.ediv_nonneg (by omega) (by omega)
    have q2 : (-x.toInt) / y.toInt ≤ -x.toInt := Int.ediv_le_self _ (by omega)
    have hx2 := x.le_toInt
    have e := Int32.toInt_div x y
    rw [hz, hn, Int.bmod_eq_of_le (by omega) (by omega)] at e
    omega
