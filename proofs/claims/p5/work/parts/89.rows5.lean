/-! the law: calls over a part of the pool, the script -/
theorem pl_iff {D : va_G} {L : List Nat} {f : Nat → va_E} {H : Heap} : va_P D vwCl (va_pl L f) H ↔ ∀ a ∈ L, va_at D vwCl (a, f a) H := by
  constructor
  · intro h a ha
    obtain ⟨k, hk⟩ := List.getElem?_of_mem ha
    exact h k (a, f a) (by rw [va_pl, List.getElem?_map, hk]; rfl)
  · intro h k q hq
    rw [va_pl, List.getElem?_map] at hq
    cases hk : L[k]? with
    | none => rw [hk] at hq; cases hq
    | some a =>
      rw [hk] at hq
      cases hq
      exact h a (List.mem_of_getElem? hk)
section GS
variable {p : Program} {l : Launch} {e : Env} {Rm : Room} {s : State} {m : MethodId} {args : Array Value} {below : List Frame} {meth : Method} {c : Code} {cells slots : Nat} {Q : State → Prop}
variable {cc : ByteArray} {pc nL : Nat} {own : String} {D : va_G} {cy : Nat → ClassId} {A : Nat → Prop} {H0 : Heap} {L Lx : List Nat} {κ ln : Nat → Nat} {R : Nat → Nat → Option Nat} {I : Nat → Nat → Int32} {J : Nat → Nat → Int64} {lo lo2 : List (Nat × Value)} {st : List Value}
variable {y : MethodName} {cc2 : ByteArray} {nL2 : Nat} {ret : Option FieldType} {rm : Room} {As : List Value} {b ci idx n N : Nat} {Cn : String} {T : u_T}
theorem s_callVI (C : CallFix p m c cc nL s args GT own) (K : Wc_ D cy A L s) (hsub : ∀ a ∈ Lx, a ∈ L) (hnd : Lx.Nodup) {post : Int32 → (Nat → Nat → Int32) → (Nat → Nat → Int64) → Prop} (hM : CtI l y cc2 nL2 ret rm D cy Lx κ ln R I J (.ref b :: As) post) (hb9 : b ∈ Lx) (hkb : κ b = ci) (hci : ci < 13) (hcl : vwCl[ci]? = some (Cn, T, N)) (hw : Vw_ own idx Cn y cc2 nL2 ret n) (hn : As.length = n) (hr0 : rm.cells = 0 ∧ rm.slots = 0) (hrm : rm.frames + 1 ≤ Rm.frames ∧ 8 + (nL2 + 11) + rm.locals ≤ Rm.locals) (hcat : (st.map fun v => v.category).sum ≤ 8) (hcs : cells + 0 ≤ Rm.cells ∧ slots + 0 ≤ Rm.slots) (hd : decode cc pc = .ok (.invokevirtual idx, 3)) {st0 : List Value} (hst : st0 = As.reverse ++ .ref b :: st)
    (kk : ∀ (r : Int32) (I2 : Nat → Nat → Int32) (J2 : Nat → Nat → Int64), post r I2 J2 → ∀ (I3 : Nat → Nat → Int32) (J3 : Nat → Nat → Int64), (∀ a ∈ Lx, I3 a = I2 a) → (∀ a, a ∉ Lx → I3 a = I a) → (∀ a ∈ Lx, J3 a = J2 a) → (∀ a, a ∉ Lx → J3 a = J a) → WG p l e Rm s m args below meth c nL cells slots Q D cy A H0 L κ ln R I3 J3 (pc + 3) lo (.int r :: st)) : WG p l e Rm s m args below meth c nL cells slots Q D cy A H0 L κ ln R I J pc lo st0 := by
  intro H locs ls hP hS hl
  subst hst
  have hP' := pl_iff.mp hP
  have hPx : va_P D vwCl (va_pl Lx (cel_ cy κ ln R I J)) H := pl_iff.mpr (fun a ha => hP' a (hsub a ha))
  obtain ⟨q, hq⟩ := pl_at (f := cel_ cy κ ln R I J) hb9
  rw [cel_o hkb hci] at hq
  refine va_calli (va_runV (As := As) (rest := st) C hM (cwV n C.2.2.2.2 (gi_V hw) rfl hr0.1 hr0.2 hw.2.2.2.2.2 hrm) ⟨Pu_blind, va_recv K.2.2 hPx hcl hq, fun U hU hW => ⟨rfl, by rw [hU]; exact hPx, va_K.moved hW.alike K.2.2, hnd⟩⟩ rfl hn hl.1 rfl (lv_room hcat) hd hcs) hS (fun q _ h => K.2.1 q (hsub q h)) (fun q h => K.2.1 q (hsub q h)) (fun r u t H1 locs1 ht hvm hw1 hB hz1 hk1 hS1 => ?_)
  obtain ⟨hP1, -, -⟩ := hB
  rw [ht] at hP1
  have hP1' := pl_iff.mp hP1
  refine kk r u.1 u.2 hw1 (fun a => if a ∈ Lx then u.1 a else I a) (fun a => if a ∈ Lx then u.2 a else J a) (fun a ha => if_pos ha) (fun a ha => if_neg ha) (fun a ha => if_pos ha) (fun a ha => if_neg ha) H1 locs1 ls (pl_iff.mpr (fun a ha => ?_)) hS1 hl
  by_cases hx : a ∈ Lx
  · rw [cel_cong (κ' := κ) (ln' := ln) (R' := R) (I' := u.1) (J' := u.2) rfl rfl (fun j => by rw [if_pos hx]) (fun j => by rw [if_pos hx]) (fun _ => rfl)]
    exact hP1' a hx
  · rw [cel_cong (κ' := κ) (ln' := ln) (R' := R) (I' := I) (J' := J) rfl rfl (fun j => by rw [if_neg hx]) (fun j => by rw [if_neg hx]) (fun _ => rfl)]
    exact (hP' a ha).kept (hk1 a (hP' a ha).lt hx)
theorem g_sld (C : CallFix p m c cc nL s args GT own) {xs : Nat → Int32} {i v : Int32} (hX : va_X b N xs s H0) (hbl : b < H0.size) (hbA : ¬ A b) (hin : vp_in i N) (hv : xs i.toNatClampNeg = v) (hd : decode cc pc = .ok (.iaload, 1)) (kk : WG p l e Rm s m args below meth c nL cells slots Q D cy A H0 L κ ln R I J (pc + 1) lo (.int v :: st)) : WG p l e Rm s m args below meth c nL cells slots Q D cy A H0 L κ ln R I J pc lo (.int i :: .ref b :: st) := fun H locs ls hP hS hl => va_sld C.1 C.2.1 hX hbl hbA hS hin hd (by rw [hv]; exact kk H locs ls hP hS hl)
theorem g_slen (C : CallFix p m c cc nL s args GT own) {xs : Nat → Int32} (hX : va_X b N xs s H0) (hbl : b < H0.size) (hbA : ¬ A b) (hd : decode cc pc = .ok (.arraylength, 1)) (kk : WG p l e Rm s m args below meth c nL cells slots Q D cy A H0 L κ ln R I J (pc + 1) lo (.int (Int32.ofNat N) :: st)) : WG p l e Rm s m args below meth c nL cells slots Q D cy A H0 L κ ln R I J pc lo (.ref b :: st) := fun H locs ls hP hS hl => va_slen C.1 C.2.1 hX hbl hbA hS hd (kk H locs ls hP hS hl)
end GS
