section ROWS43
variable {p : Program} {l : Launch} {e : Env} {Rm : Room} {s : State} {m : MethodId} {args : Array Value} {below : List Frame} {meth : Method} {c : Code} {cells slots : Nat} {Q : State → Prop}
variable {cc : ByteArray} {pc nL : Nat} {own : String} {D : va_G} {cy : Nat → ClassId} {A : Nat → Prop} {H0 : Heap} {L : List Nat} {κ ln : Nat → Nat} {R : Nat → Nat → Option Nat} {I : Nat → Nat → Int32} {J : Nat → Nat → Int64} {lo lo2 : List (Nat × Value)} {st : List Value}
theorem g_laddE (C : CallFix p m c cc nL s args GT own) {x y : Int64} (hd : decode cc pc = .ok (.ladd, 1)) (kk : ∀ z, x + y = z → WG p l e Rm s m args below meth c nL cells slots Q D cy A H0 L κ ln R I J (pc + 1) lo (.long z :: st)) : WG p l e Rm s m args below meth c nL cells slots Q D cy A H0 L κ ln R I J pc lo (.long y :: .long x :: st) := fun H locs ls hP hS hl => lv_ladd C.1 C.2.1 hd (kk _ rfl H locs ls hP hS hl)
theorem g_lsubE (C : CallFix p m c cc nL s args GT own) {x y : Int64} (hd : decode cc pc = .ok (.lsub, 1)) (kk : ∀ z, x - y = z → WG p l e Rm s m args below meth c nL cells slots Q D cy A H0 L κ ln R I J (pc + 1) lo (.long z :: st)) : WG p l e Rm s m args below meth c nL cells slots Q D cy A H0 L κ ln R I J pc lo (.long y :: .long x :: st) := fun H locs ls hP hS hl => lv_lsub C.1 C.2.1 hd (kk _ rfl H locs ls hP hS hl)
theorem g_lmulE (C : CallFix p m c cc nL s args GT own) {x y : Int64} (hd : decode cc pc = .ok (.lmul, 1)) (kk : ∀ z, x * y = z → WG p l e Rm s m args below meth c nL cells slots Q D cy A H0 L κ ln R I J (pc + 1) lo (.long z :: st)) : WG p l e Rm s m args below meth c nL cells slots Q D cy A H0 L κ ln R I J pc lo (.long y :: .long x :: st) := fun H locs ls hP hS hl => lv_lmul C.1 C.2.1 hd (kk _ rfl H locs ls hP hS hl)
theorem g_landE (C : CallFix p m c cc nL s args GT own) {x y : Int64} (hd : decode cc pc = .ok (.land, 1)) (kk : ∀ z, x &&& y = z → WG p l e Rm s m args below meth c nL cells slots Q D cy A H0 L κ ln R I J (pc + 1) lo (.long z :: st)) : WG p l e Rm s m args below meth c nL cells slots Q D cy A H0 L κ ln R I J pc lo (.long y :: .long x :: st) := fun H locs ls hP hS hl => lv_land C.1 C.2.1 hd (kk _ rfl H locs ls hP hS hl)
theorem g_lorE (C : CallFix p m c cc nL s args GT own) {x y : Int64} (hd : decode cc pc = .ok (.lor, 1)) (kk : ∀ z, x ||| y = z → WG p l e Rm s m args below meth c nL cells slots Q D cy A H0 L κ ln R I J (pc + 1) lo (.long z :: st)) : WG p l e Rm s m args below meth c nL cells slots Q D cy A H0 L κ ln R I J pc lo (.long y :: .long x :: st) := fun H locs ls hP hS hl => lv_lor C.1 C.2.1 hd (kk _ rfl H locs ls hP hS hl)
theorem g_lshlE (C : CallFix p m c cc nL s args GT own) {x : Int64} {y : Int32} (hd : decode cc pc = .ok (.lshl, 1)) (kk : ∀ z, x <<< (y.toInt64 &&& 63) = z → WG p l e Rm s m args below meth c nL cells slots Q D cy A H0 L κ ln R I J (pc + 1) lo (.long z :: st)) : WG p l e Rm s m args below meth c nL cells slots Q D cy A H0 L κ ln R I J pc lo (.int y :: .long x :: st) := fun H locs ls hP hS hl => lv_lshl C.1 C.2.1 hd rfl (kk _ rfl H locs ls hP hS hl)
theorem g_lshrE (C : CallFix p m c cc nL s args GT own) {x : Int64} {y : Int32} (hd : decode cc pc = .ok (.lshr, 1)) (kk : ∀ z, x >>> (y.toInt64 &&& 63) = z → WG p l e Rm s m args below meth c nL cells slots Q D cy A H0 L κ ln R I J (pc + 1) lo (.long z :: st)) : WG p l e Rm s m args below meth c nL cells slots Q D cy A H0 L κ ln R I J pc lo (.int y :: .long x :: st) := fun H locs ls hP hS hl => lv_lshr C.1 C.2.1 hd rfl (kk _ rfl H locs ls hP hS hl)
theorem g_lcmpX (C : CallFix p m c cc nL s args GT own) {x y : Int64} (hd : decode cc pc = .ok (.lcmp, 1)) (kk : ∀ z, Rg (-1) 1 z → lc_ x y = z → WG p l e Rm s m args below meth c nL cells slots Q D cy A H0 L κ ln R I J (pc + 1) lo (.int z :: st)) : WG p l e Rm s m args below meth c nL cells slots Q D cy A H0 L κ ln R I J pc lo (.long y :: .long x :: st) := by
  intro H locs ls hP hS hl T hT X
  have hexec := C.1
  have hb := C.2.1
  by_cases c1 : x > y
  · obtain ⟨t, a, b⟩ := kk 1 ⟨by decide, by decide⟩ (by unfold lc_; rw [if_neg (fun h => absurd (Int64.lt_trans h c1) Int64.lt_irrefl), if_neg (fun h => absurd c1 (by rw [h]; exact Int64.lt_irrefl))]) H locs ls hP hS hl T hT X
    refine ⟨t, ?_, b⟩
    jvm_step X.here [X.here.top, hexec, hb, hd, c1]
    exact a
  · by_cases c2 : x = y
    · obtain ⟨t, a, b⟩ := kk 0 ⟨by decide, by decide⟩ (by unfold lc_; rw [if_neg (fun h => absurd h (by rw [c2]; exact Int64.lt_irrefl)), if_pos c2]) H locs ls hP hS hl T hT X
      refine ⟨t, ?_, b⟩
      jvm_step X.here [X.here.top, hexec, hb, hd, c1, c2]
      exact a
    · obtain ⟨t, a, b⟩ := kk (-1) ⟨by decide, by decide⟩ (by unfold lc_; rw [if_pos]; rcases Int64.lt_or_eq_of_le (Int64.not_lt.mp c1) with q | q; exact q; exact absurd q c2) H locs ls hP hS hl T hT X
      refine ⟨t, ?_, b⟩
      jvm_step X.here [X.here.top, hexec, hb, hd, c1, c2]
      exact a
end ROWS43
