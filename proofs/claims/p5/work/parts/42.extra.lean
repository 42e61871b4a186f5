/-! more of ranges -/
theorem rg_nz {a b : Int} {x : Int32} (h : Rg a b x) (h1 : 0 < a ∨ b < 0) : ¬ x = 0 := fun e => by
  subst e; have h2 := h.1; have h3 := h.2; have e2 : (0 : Int32).toInt = 0 := by decide
  omega
theorem rg_i {a b c d lo hi : Int} {x : Int32} (h : Rg a b x) (h2 : Rg c d x) (e1 : lo ≤ a ∨ lo ≤ c) (e2 : b ≤ hi ∨ d ≤ hi) : Rg lo hi x := by unfold Rg at *; omega
theorem rg_nek {a b k : Int} {x y : Int32} (h : Rg a b x) (hk : Rg k k y) (h1 : k < a ∨ b < k) : ¬ x = y := fun e => by subst e; unfold Rg at *; omega
theorem ex_ushr8 {x : Int32} : ∃ z, (Int32.toUInt32 x >>> (Int32.toUInt32 8 &&& Int32.toUInt32 31)).toInt32 = z ∧ Rg 0 16777215 z := by
  refine ⟨_, rfl, ?_⟩
  have e0 : ((Int32.toUInt32 x >>> (Int32.toUInt32 8 &&& Int32.toUInt32 31)).toInt32).toBitVec = x.toBitVec >>> 8 := rfl
  have e1 : ((Int32.toUInt32 x >>> (Int32.toUInt32 8 &&& Int32.toUInt32 31)).toInt32).toBitVec.toNat < 16777216 := by
    rw [e0, BitVec.toNat_ushiftRight, Nat.shiftRight_eq_div_pow]
    have := x.toBitVec.isLt
    omega
  have e2 := bv_nn (x := (Int32.toUInt32 x >>> (Int32.toUInt32 8 &&& Int32.toUInt32 31)).toInt32) (by omega)
  unfold Rg; omega
theorem nar_b (v : Int32) : Rg (-128) 127 (vp_nar .byte v) := by
  have h := ex_b2 (x := v)
  obtain ⟨z, h1, h2⟩ := h
  have e : vp_nar .byte v = v.toInt8.toInt32 := rfl
  rw [e, h1]; exact h2
theorem nar_zz (v : Int32) : Rg 0 1 (vp_nar .boolean v) := by
  have h := ex_andr (x := v) (y := 1) (b := 1) ⟨by decide, by decide⟩
  obtain ⟨z, h1, h2⟩ := h
  have e : vp_nar .boolean v = v &&& 1 := rfl
  rw [e, h1]; exact h2
section MEM2
variable {L : List Nat} {κ ln : Nat → Nat} {ow : Nat → Nat × Nat} {I I2 I0 : Nat → Nat → Int32} {a b j r x k t ci : Nat} {v : Int32} {lo hi : Int} {T T2 : List Nat}
theorem uv_cpf {n : Nat} (hU : Uv L κ ow I) (e : I2 = k2_ I b a n) (hr : ro_ κ ow a = r) (hf : ∀ j, bI r j = (-2147483648, 2147483647)) : Uv L κ ow I2 := by
  intro c hc i
  rw [e]
  unfold k2_
  split
  · rename_i h
    rw [h.1, hr, hf]; exact rg_all _
  · exact hU c hc i
/-- how many bits -/
def bc_ (x0 : Int32) : Int32 :=
  let sh := fun (x : Int32) (k : Int32) => (Int32.toUInt32 x >>> (Int32.toUInt32 k &&& Int32.toUInt32 31)).toInt32
  let a := x0 - (sh x0 1 &&& 1431655765)
  let b := (a &&& 858993459) + (sh a 2 &&& 858993459)
  let c := (b + sh b 4) &&& 252645135
  let d := c + sh c 8
  let f := d + sh d 16
  f &&& 63
theorem bc_7 {x r : Int32} (h : Rg 0 127 x) (e : r = bc_ x) : Rg 0 7 r := by
  subst e
  obtain ⟨n, h1, rfl⟩ := rg_case (m := 127) h
  have : ∀ n : Fin 128, (0 : Int) ≤ (bc_ (Int32.ofNat n.1)).toInt ∧ (bc_ (Int32.ofNat n.1)).toInt ≤ 7 := by decide +kernel
  exact this ⟨n, by omega⟩
theorem kp_r {α : Type} {I I2 : Nat → Nat → α} {v w : α} {i r2 : Nat} (e : I2 = u2_ I b i w) (hr : ro_ κ ow a = r) (hr2 : ro_ κ ow b = r2) (h : r ≠ r2) (hc : I a j = v) : I2 a j = v := by rw [e, u2_b (fun q => h (by rw [← hr, ← hr2, q]))]; exact hc
theorem kp_cr {α : Type} {I I2 : Nat → Nat → α} {v : α} {n b2 r2 : Nat} (e : I2 = k2_ I b2 b n) (hr : ro_ κ ow a = r) (hr2 : ro_ κ ow b = r2) (h : r ≠ r2) (hc : I a j = v) : I2 a j = v := by rw [e, k2_b (fun q => h (by rw [← hr, ← hr2, q]))]; exact hc
theorem fq_ar {α : Type} {I I2 : Nat → Nat → α} {v : α} (h : Fq L κ ow T I I2) (ha : a ∈ L) (hr : ro_ κ ow a = r) (h9 : 13 ≤ r) (ht : r * 100 ∉ T) (hc : I a j = v) : I2 a j = v := (h a ha j (by rw [hr, tg_, if_neg (by omega)]; exact ht)).trans hc
end MEM2
section ROWS42
variable {p : Program} {l : Launch} {e : Env} {Rm : Room} {s : State} {m : MethodId} {args : Array Value} {below : List Frame} {meth : Method} {c : Code} {cells slots : Nat} {Q : State → Prop}
variable {cc : ByteArray} {pc nL : Nat} {own : String} {D : va_G} {cy : Nat → ClassId} {A : Nat → Prop} {H0 : Heap} {L : List Nat} {κ ln : Nat → Nat} {R : Nat → Nat → Option Nat} {I : Nat → Nat → Int32} {J : Nat → Nat → Int64} {lo lo2 : List (Nat × Value)} {st : List Value}
theorem g_ineg (C : CallFix p m c cc nL s args GT own) {x v : Int32} (hd : decode cc pc = .ok (.ineg, 1)) (hv : -x = v) (kk : WG p l e Rm s m args below meth c nL cells slots Q D cy A H0 L κ ln R I J (pc + 1) lo (.int v :: st)) : WG p l e Rm s m args below meth c nL cells slots Q D cy A H0 L κ ln R I J pc lo (.int x :: st) := fun H locs ls hP hS hl => lv_ineg C.1 C.2.1 hd (by rw [hv]; exact kk H locs ls hP hS hl)
theorem g_l2i (C : CallFix p m c cc nL s args GT own) {x : Int64} {v : Int32} (hd : decode cc pc = .ok (.l2i, 1)) (hv : x.toInt32 = v) (kk : WG p l e Rm s m args below meth c nL cells slots Q D cy A H0 L κ ln R I J (pc + 1) lo (.int v :: st)) : WG p l e Rm s m args below meth c nL cells slots Q D cy A H0 L κ ln R I J pc lo (.long x :: st) := fun H locs ls hP hS hl => lv_l2i C.1 C.2.1 hd hv (kk H locs ls hP hS hl)
theorem g_ladd (C : CallFix p m c cc nL s args GT own) {x y : Int64} (hd : decode cc pc = .ok (.ladd, 1)) (kk : ∀ z, WG p l e Rm s m args below meth c nL cells slots Q D cy A H0 L κ ln R I J (pc + 1) lo (.long z :: st)) : WG p l e Rm s m args below meth c nL cells slots Q D cy A H0 L κ ln R I J pc lo (.long y :: .long x :: st) := fun H locs ls hP hS hl => lv_ladd C.1 C.2.1 hd (kk _ H locs ls hP hS hl)
theorem g_lsub (C : CallFix p m c cc nL s args GT own) {x y : Int64} (hd : decode cc pc = .ok (.lsub, 1)) (kk : ∀ z, WG p l e Rm s m args below meth c nL cells slots Q D cy A H0 L κ ln R I J (pc + 1) lo (.long z :: st)) : WG p l e Rm s m args below meth c nL cells slots Q D cy A H0 L κ ln R I J pc lo (.long y :: .long x :: st) := fun H locs ls hP hS hl => lv_lsub C.1 C.2.1 hd (kk _ H locs ls hP hS hl)
theorem g_lmul (C : CallFix p m c cc nL s args GT own) {x y : Int64} (hd : decode cc pc = .ok (.lmul, 1)) (kk : ∀ z, WG p l e Rm s m args below meth c nL cells slots Q D cy A H0 L κ ln R I J (pc + 1) lo (.long z :: st)) : WG p l e Rm s m args below meth c nL cells slots Q D cy A H0 L κ ln R I J pc lo (.long y :: .long x :: st) := fun H locs ls hP hS hl => lv_lmul C.1 C.2.1 hd (kk _ H locs ls hP hS hl)
theorem g_land (C : CallFix p m c cc nL s args GT own) {x y : Int64} (hd : decode cc pc = .ok (.land, 1)) (kk : ∀ z, WG p l e Rm s m args below meth c nL cells slots Q D cy A H0 L κ ln R I J (pc + 1) lo (.long z :: st)) : WG p l e Rm s m args below meth c nL cells slots Q D cy A H0 L κ ln R I J pc lo (.long y :: .long x :: st) := fun H locs ls hP hS hl => lv_land C.1 C.2.1 hd (kk _ H locs ls hP hS hl)
theorem g_lor (C : CallFix p m c cc nL s args GT own) {x y : Int64} (hd : decode cc pc = .ok (.lor, 1)) (kk : ∀ z, WG p l e Rm s m args below meth c nL cells slots Q D cy A H0 L κ ln R I J (pc + 1) lo (.long z :: st)) : WG p l e Rm s m args below meth c nL cells slots Q D cy A H0 L κ ln R I J pc lo (.long y :: .long x :: st) := fun H locs ls hP hS hl => lv_lor C.1 C.2.1 hd (kk _ H locs ls hP hS hl)
theorem g_ldiv (C : CallFix p m c cc nL s args GT own) {x y : Int64} (hd : decode cc pc = .ok (.ldiv, 1)) (hne : ¬ y = 0) (kk : ∀ z, WG p l e Rm s m args below meth c nL cells slots Q D cy A H0 L κ ln R I J (pc + 1) lo (.long z :: st)) : WG p l e Rm s m args below meth c nL cells slots Q D cy A H0 L κ ln R I J pc lo (.long y :: .long x :: st) := fun H locs ls hP hS hl => lv_ldiv C.1 C.2.1 hd hne (kk _ H locs ls hP hS hl)
theorem g_lrem (C : CallFix p m c cc nL s args GT own) {x y : Int64} (hd : decode cc pc = .ok (.lrem, 1)) (hne : ¬ y = 0) (kk : ∀ z, WG p l e Rm s m args below meth c nL cells slots Q D cy A H0 L κ ln R I J (pc + 1) lo (.long z :: st)) : WG p l e Rm s m args below meth c nL cells slots Q D cy A H0 L κ ln R I J pc lo (.long y :: .long x :: st) := fun H locs ls hP hS hl => lv_lrem C.1 C.2.1 hd hne (kk _ H locs ls hP hS hl)
theorem g_lshl (C : CallFix p m c cc nL s args GT own) {x : Int64} {y : Int32} (hd : decode cc pc = .ok (.lshl, 1)) (kk : ∀ z, WG p l e Rm s m args below meth c nL cells slots Q D cy A H0 L κ ln R I J (pc + 1) lo (.long z :: st)) : WG p l e Rm s m args below meth c nL cells slots Q D cy A H0 L κ ln R I J pc lo (.int y :: .long x :: st) := fun H locs ls hP hS hl => lv_lshl C.1 C.2.1 hd rfl (kk _ H locs ls hP hS hl)
theorem g_lshr (C : CallFix p m c cc nL s args GT own) {x : Int64} {y : Int32} (hd : decode cc pc = .ok (.lshr, 1)) (kk : ∀ z, WG p l e Rm s m args below meth c nL cells slots Q D cy A H0 L κ ln R I J (pc + 1) lo (.long z :: st)) : WG p l e Rm s m args below meth c nL cells slots Q D cy A H0 L κ ln R I J pc lo (.int y :: .long x :: st) := fun H locs ls hP hS hl => lv_lshr C.1 C.2.1 hd rfl (kk _ H locs ls hP hS hl)
theorem g_lcmp (C : CallFix p m c cc nL s args GT own) {x y : Int64} (hd : decode cc pc = .ok (.lcmp, 1)) (kk : ∀ z, Rg (-1) 1 z → WG p l e Rm s m args below meth c nL cells slots Q D cy A H0 L κ ln R I J (pc + 1) lo (.int z :: st)) : WG p l e Rm s m args below meth c nL cells slots Q D cy A H0 L κ ln R I J pc lo (.long y :: .long x :: st) := by
  intro H locs ls hP hS hl T hT X
  have hexec := C.1
  have hb := C.2.1
  by_cases c1 : x > y
  · obtain ⟨t, a, b⟩ := kk 1 ⟨by decide, by decide⟩ H locs ls hP hS hl T hT X
    refine ⟨t, ?_, b⟩
    jvm_step X.here [X.here.top, hexec, hb, hd, c1]
    exact a
  · by_cases c2 : x = y
    · obtain ⟨t, a, b⟩ := kk 0 ⟨by decide, by decide⟩ H locs ls hP hS hl T hT X
      refine ⟨t, ?_, b⟩
      jvm_step X.here [X.here.top, hexec, hb, hd, c1, c2]
      exact a
    · obtain ⟨t, a, b⟩ := kk (-1) ⟨by decide, by decide⟩ H locs ls hP hS hl T hT X
      refine ⟨t, ?_, b⟩
      jvm_step X.here [X.here.top, hexec, hb, hd, c1, c2]
      exact a
theorem g_mabs (C : CallFix p m c cc nL s args GT own) {idx : Nat} {x v : Int32} (hlk : Cond.methodLink own idx Lib.Math.abs.name ∈ GT) (hw : Cond.static Lib.Math.abs.name ∈ GT ∧ Cond.initialized "java/lang/Math" ∈ GT ∧ Cond.code Lib.Math.abs.name Lib.Math.abs.code 1 (some .int) ∈ GT) (hfr : 1 ≤ Rm.frames) (hlc : (st.map fun v => v.category).sum + 13 ≤ Rm.locals) (hcs : cells ≤ Rm.cells ∧ slots ≤ Rm.slots) (hv : (if 0 ≤ x then x else 0 - x) = v) (hd : decode cc pc = .ok (.invokestatic idx, 3)) (kk : WG p l e Rm s m args below meth c nL cells slots Q D cy A H0 L κ ln R I J (pc + 3) lo (.int v :: st)) : WG p l e Rm s m args below meth c nL cells slots Q D cy A H0 L κ ln R I J pc lo (.int x :: st) := fun H locs ls hP hS hl => va_mabs C.1 C.2.1 (by rw [C.2.2.1]; exact hl.1.symm) C.2.2.2.1 (C.2.2.2.2 _ hlk) (C.2.2.2.2 _ hw.1) (C.2.2.2.2 _ hw.2.1) (C.2.2.2.2 _ hw.2.2) hfr hlc hcs.1 hcs.2 hd (hv ▸ kk H locs ls hP hS hl)
theorem g_lookup (C : CallFix p m c cc nL s args GT own) {dflt : Int} {ps : Array (Int × Int)} {len : Nat} {x : Int32} {off : Int} {tgt : Nat} (hd : decode cc pc = .ok (.lookupswitch dflt ps, len)) (hp : (ps.toList.zip (ps.toList.drop 1)).all (fun (a, next) => a.1 < next.1) = true) (ho : Op.lookupswitch.offset ps.toList dflt x.toInt = off) (ht : (pc : Int) + off = (tgt : Int)) (kk : WG p l e Rm s m args below meth c nL cells slots Q D cy A H0 L κ ln R I J tgt lo st) : WG p l e Rm s m args below meth c nL cells slots Q D cy A H0 L κ ln R I J pc lo (.int x :: st) := fun H locs ls hP hS hl => lv_lookup C.1 C.2.1 hd hp ho ht (kk H locs ls hP hS hl)
end ROWS42
theorem w_abs : Cond.static Lib.Math.abs.name ∈ GT ∧ Cond.initialized "java/lang/Math" ∈ GT ∧ Cond.code Lib.Math.abs.name Lib.Math.abs.code 1 (some .int) ∈ GT := ⟨gt_in 1011 (by decide +kernel) (by decide +kernel), gt_in 122 (by decide +kernel) (by decide +kernel), gt_in 1012 (by decide +kernel) (by decide +kernel)⟩
theorem mw_2_48 : Cond.methodLink RX2 48 Lib.Math.abs.name ∈ GT := gt_in 1010 (by decide +kernel) (by decide +kernel)
