/-! frames and zeros by kinds -/
def Fk (κ : Nat → Nat) (ks : List Nat) (I I2 : Nat → Nat → Int32) : Prop := ∀ b j, κ b ∉ ks → I2 b j = I b j
def Fj (κ : Nat → Nat) (ks : List Nat) (J J2 : Nat → Nat → Int64) : Prop := ∀ b j, κ b ∉ ks → J2 b j = J b j
def Zk (L : List Nat) (κ : Nat → Nat) (kd : Nat) (I : Nat → Nat → Int32) : Prop := ∀ b ∈ L, κ b = kd → ∀ j, I b j = 0
theorem Fk.rf {κ : Nat → Nat} {ks : List Nat} {I : Nat → Nat → Int32} : Fk κ ks I I := fun _ _ _ => rfl
theorem Fk.tr {κ : Nat → Nat} {ks ks2 : List Nat} {I I2 I3 : Nat → Nat → Int32} (h : Fk κ ks I I2) (h2 : Fk κ ks2 I2 I3) (hs : ∀ k ∈ ks2, k ∈ ks) : Fk κ ks I I3 := fun b j hb => (h2 b j (fun q => hb (hs _ q))).trans (h b j hb)
theorem Fk.wk {κ : Nat → Nat} {ks ks2 : List Nat} {I I2 : Nat → Nat → Int32} (h : Fk κ ks2 I I2) (hs : ∀ k ∈ ks2, k ∈ ks) : Fk κ ks I I2 := fun b j hb => h b j (fun q => hb (hs _ q))
theorem Fk.u2 {κ : Nat → Nat} {ks : List Nat} {I I2 I3 : Nat → Nat → Int32} {a k c : Nat} {v : Int32} (h : Fk κ ks I I2) (e : I3 = u2_ I2 a k v) (hk : κ a = c) (hc : c ∈ ks) : Fk κ ks I I3 := fun b j hb => by
  rw [e, u2_b (fun q => hb (by rw [q, hk]; exact hc))]; exact h b j hb
theorem Fk.k2 {κ : Nat → Nat} {ks : List Nat} {I I2 I3 : Nat → Nat → Int32} {a o n c : Nat} (h : Fk κ ks I I2) (e : I3 = k2_ I2 o a n) (hk : κ a = c) (hc : c ∈ ks) : Fk κ ks I I3 := fun b j hb => by
  rw [e, k2_b (fun q => hb (by rw [q, hk]; exact hc))]; exact h b j hb
theorem Fj.rf {κ : Nat → Nat} {ks : List Nat} {I : Nat → Nat → Int64} : Fj κ ks I I := fun _ _ _ => rfl
theorem Fj.tr {κ : Nat → Nat} {ks ks2 : List Nat} {I I2 I3 : Nat → Nat → Int64} (h : Fj κ ks I I2) (h2 : Fj κ ks2 I2 I3) (hs : ∀ k ∈ ks2, k ∈ ks) : Fj κ ks I I3 := fun b j hb => (h2 b j (fun q => hb (hs _ q))).trans (h b j hb)
theorem Fj.u2 {κ : Nat → Nat} {ks : List Nat} {I I2 I3 : Nat → Nat → Int64} {a k c : Nat} {v : Int64} (h : Fj κ ks I I2) (e : I3 = u2_ I2 a k v) (hk : κ a = c) (hc : c ∈ ks) : Fj κ ks I I3 := fun b j hb => by
  rw [e, u2_b (fun q => hb (by rw [q, hk]; exact hc))]; exact h b j hb
theorem Fj.k2 {κ : Nat → Nat} {ks : List Nat} {I I2 I3 : Nat → Nat → Int64} {a o n c : Nat} (h : Fj κ ks I I2) (e : I3 = k2_ I2 o a n) (hk : κ a = c) (hc : c ∈ ks) : Fj κ ks I I3 := fun b j hb => by
  rw [e, k2_b (fun q => hb (by rw [q, hk]; exact hc))]; exact h b j hb
theorem Zk.fk {L : List Nat} {κ : Nat → Nat} {kd : Nat} {ks : List Nat} {I I2 : Nat → Nat → Int32} (h : Zk L κ kd I) (hf : Fk κ ks I I2) (hk : kd ∉ ks) : Zk L κ kd I2 := fun b hb hkb j => by
  rw [hf b j (by rw [hkb]; exact hk)]; exact h b hb hkb j
theorem Zk.u2 {L : List Nat} {κ : Nat → Nat} {kd : Nat} {I I2 : Nat → Nat → Int32} {a k : Nat} {v : Int32} (h : Zk L κ kd I) (e : I2 = u2_ I a k v) (hv : v = 0) : Zk L κ kd I2 := fun b hb hkb j => by
  subst e hv
  by_cases hq : b = a ∧ j = k
  · simp [u2_, hq]
  · simp only [u2_, if_neg hq]; exact h b hb hkb j
theorem Zk.u2k {L : List Nat} {κ : Nat → Nat} {kd c : Nat} {I I2 : Nat → Nat → Int32} {a k : Nat} {v : Int32} (h : Zk L κ kd I) (e : I2 = u2_ I a k v) (hk : κ a = c) (hc : c ≠ kd) : Zk L κ kd I2 := fun b hb hkb j => by
  rw [e, u2_b (fun q => hc (by rw [← hk, ← q, hkb]))]; exact h b hb hkb j
theorem Zk.k2 {L : List Nat} {κ : Nat → Nat} {kd : Nat} {I I2 : Nat → Nat → Int32} {a o n : Nat} (h : Zk L κ kd I) (e : I2 = k2_ I o a n) (ho : o ∈ L) (hk : κ o = κ a) : Zk L κ kd I2 := fun b hb hkb j => by
  subst e
  by_cases hq : b = a ∧ j < n
  · simp only [k2_, if_pos hq]; exact h o ho (by rw [hk, ← hq.1]; exact hkb) j
  · simp only [k2_, if_neg hq]; exact h b hb hkb j
theorem Zk.k2k {L : List Nat} {κ : Nat → Nat} {kd c : Nat} {I I2 : Nat → Nat → Int32} {a o n : Nat} (h : Zk L κ kd I) (e : I2 = k2_ I o a n) (hk : κ a = c) (hc : c ≠ kd) : Zk L κ kd I2 := fun b hb hkb j => by
  rw [e, k2_b (fun q => hc (by rw [← hk, ← q, hkb]))]; exact h b hb hkb j
theorem w_cp : Cond.native arraycopyName ∈ GT ∧ Cond.static arraycopyName ∈ GT ∧ Cond.initialized "java/lang/System" ∈ GT := ⟨gt_in 758 (by decide +kernel) (by decide +kernel), gt_in 757 (by decide +kernel) (by decide +kernel), gt_in 123 (by decide +kernel) (by decide +kernel)⟩
section GL
variable {p : Program} {l : Launch} {e : Env} {Rm : Room} {s : State} {m : MethodId} {args : Array Value} {below : List Frame} {meth : Method} {c : Code} {cells slots : Nat} {Q : State → Prop}
variable {cc : ByteArray} {pc nL : Nat} {own : String} {D : va_G} {cy : Nat → ClassId} {A : Nat → Prop} {H0 : Heap} {L : List Nat} {κ ln : Nat → Nat} {R : Nat → Nat → Option Nat} {I : Nat → Nat → Int32} {J : Nat → Nat → Int64} {lo lo2 : List (Nat × Value)} {st : List Value}
theorem g_ldcw (C : CallFix p m c cc nL s args GT own) {idx : Nat} {v : Int32} (hc : Cond.constant own idx v ∈ GT) (hd : decode cc pc = .ok (.ldc_w idx, 3)) (kk : WG p l e Rm s m args below meth c nL cells slots Q D cy A H0 L κ ln R I J (pc + 3) lo (.int v :: st)) : WG p l e Rm s m args below meth c nL cells slots Q D cy A H0 L κ ln R I J pc lo st := fun H locs ls hP hS hl => lv_ldcw C.1 C.2.1 C.2.2.2.1 (C.2.2.2.2 _ hc) hd (kk H locs ls hP hS hl)
theorem g_mmin (C : CallFix p m c cc nL s args GT own) {idx : Nat} {x y v : Int32} (hlk : Cond.methodLink own idx Lib.Math.min.name ∈ GT) (hw : Cond.static Lib.Math.min.name ∈ GT ∧ Cond.initialized "java/lang/Math" ∈ GT ∧ Cond.code Lib.Math.min.name Lib.Math.min.code 2 (some .int) ∈ GT) (hfr : 1 ≤ Rm.frames) (hlc : (st.map fun v => v.category).sum + 13 ≤ Rm.locals) (hcs : cells ≤ Rm.cells ∧ slots ≤ Rm.slots) (hv : (if y < x then y else x) = v) (hd : decode cc pc = .ok (.invokestatic idx, 3)) (kk : WG p l e Rm s m args below meth c nL cells slots Q D cy A H0 L κ ln R I J (pc + 3) lo (.int v :: st)) : WG p l e Rm s m args below meth c nL cells slots Q D cy A H0 L κ ln R I J pc lo (.int y :: .int x :: st) := fun H locs ls hP hS hl => va_mmin C.1 C.2.1 (by rw [C.2.2.1]; exact hl.1.symm) C.2.2.2.1 (C.2.2.2.2 _ hlk) (C.2.2.2.2 _ hw.1) (C.2.2.2.2 _ hw.2.1) (C.2.2.2.2 _ hw.2.2) hfr hlc hcs.1 hcs.2 hd (hv ▸ kk H locs ls hP hS hl)
theorem g_mmax (C : CallFix p m c cc nL s args GT own) {idx : Nat} {x y v : Int32} (hlk : Cond.methodLink own idx Lib.Math.max.name ∈ GT) (hw : Cond.static Lib.Math.max.name ∈ GT ∧ Cond.initialized "java/lang/Math" ∈ GT ∧ Cond.code Lib.Math.max.name Lib.Math.max.code 2 (some .int) ∈ GT) (hfr : 1 ≤ Rm.frames) (hlc : (st.map fun v => v.category).sum + 13 ≤ Rm.locals) (hcs : cells ≤ Rm.cells ∧ slots ≤ Rm.slots) (hv : (if x < y then y else x) = v) (hd : decode cc pc = .ok (.invokestatic idx, 3)) (kk : WG p l e Rm s m args below meth c nL cells slots Q D cy A H0 L κ ln R I J (pc + 3) lo (.int v :: st)) : WG p l e Rm s m args below meth c nL cells slots Q D cy A H0 L κ ln R I J pc lo (.int y :: .int x :: st) := fun H locs ls hP hS hl => va_mmax C.1 C.2.1 (by rw [C.2.2.1]; exact hl.1.symm) C.2.2.2.1 (C.2.2.2.2 _ hlk) (C.2.2.2.2 _ hw.1) (C.2.2.2.2 _ hw.2.1) (C.2.2.2.2 _ hw.2.2) hfr hlc hcs.1 hcs.2 hd (hv ▸ kk H locs ls hP hS hl)
end GL
theorem w_min : Cond.static Lib.Math.min.name ∈ GT ∧ Cond.initialized "java/lang/Math" ∈ GT ∧ Cond.code Lib.Math.min.name Lib.Math.min.code 2 (some .int) ∈ GT := ⟨gt_in 663 (by decide +kernel) (by decide +kernel), gt_in 122 (by decide +kernel) (by decide +kernel), gt_in 664 (by decide +kernel) (by decide +kernel)⟩
theorem mw_10_70 : Cond.methodLink RX10 70 Lib.Math.min.name ∈ GT := gt_in 662 (by decide +kernel) (by decide +kernel)
theorem mw_5_31 : Cond.methodLink RX5 31 Lib.Math.min.name ∈ GT := gt_in 852 (by decide +kernel) (by decide +kernel)
theorem mw_1_100 : Cond.methodLink RX1 100 Lib.Math.min.name ∈ GT := gt_in 890 (by decide +kernel) (by decide +kernel)
theorem mw_8_53 : Cond.methodLink RX8 53 Lib.Math.min.name ∈ GT := gt_in 1069 (by decide +kernel) (by decide +kernel)
theorem w_max : Cond.static Lib.Math.max.name ∈ GT ∧ Cond.initialized "java/lang/Math" ∈ GT ∧ Cond.code Lib.Math.max.name Lib.Math.max.code 2 (some .int) ∈ GT := ⟨gt_in 982 (by decide +kernel) (by decide +kernel), gt_in 122 (by decide +kernel) (by decide +kernel), gt_in 983 (by decide +kernel) (by decide +kernel)⟩
theorem mw_4_84 : Cond.methodLink RX4 84 Lib.Math.max.name ∈ GT := gt_in 981 (by decide +kernel) (by decide +kernel)
theorem mw_8_47 : Cond.methodLink RX8 47 Lib.Math.max.name ∈ GT := gt_in 1068 (by decide +kernel) (by decide +kernel)
theorem ac_8_41 : Cond.methodLink RX8 41 arraycopyName ∈ GT := gt_in 756 (by decide +kernel) (by decide +kernel)
theorem ac_1_56 : Cond.methodLink RX1 56 arraycopyName ∈ GT := gt_in 763 (by decide +kernel) (by decide +kernel)
theorem k_Integer_265 : Cond.constant "java/lang/Integer" 265 1431655765 ∈ GT := gt_in 963 (by decide +kernel) (by decide +kernel)
theorem k_Integer_266 : Cond.constant "java/lang/Integer" 266 858993459 ∈ GT := gt_in 964 (by decide +kernel) (by decide +kernel)
theorem k_Integer_267 : Cond.constant "java/lang/Integer" 267 252645135 ∈ GT := gt_in 965 (by decide +kernel) (by decide +kernel)
theorem ac_4_52 : Cond.methodLink RX4 52 arraycopyName ∈ GT := gt_in 971 (by decide +kernel) (by decide +kernel)
theorem k_SecondHelpings_Course_129 : Cond.constant "SecondHelpings$Course" 129 1103515245 ∈ GT := gt_in 1121 (by decide +kernel) (by decide +kernel)
theorem ac_7_31 : Cond.methodLink RX7 31 arraycopyName ∈ GT := gt_in 1225 (by decide +kernel) (by decide +kernel)
theorem k_SecondHelpingsModel_308 : Cond.constant "SecondHelpingsModel" 308 1000000 ∈ GT := gt_in 1767 (by decide +kernel) (by decide +kernel)
theorem k_SecondHelpingsModel_354 : Cond.constant "SecondHelpingsModel" 354 1103515245 ∈ GT := gt_in 1878 (by decide +kernel) (by decide +kernel)
