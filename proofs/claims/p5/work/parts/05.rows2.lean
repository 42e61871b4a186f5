section GA
variable {p : Program} {l : Launch} {e : Env} {Rm : Room} {s : State} {m : MethodId} {args : Array Value} {below : List Frame} {meth : Method} {c : Code} {cells slots : Nat} {Q : State → Prop}
variable {cc : ByteArray} {pc nL : Nat} {own : String} {D : va_G} {cy : Nat → ClassId} {A : Nat → Prop} {H0 : Heap} {L : List Nat} {κ ln : Nat → Nat} {R : Nat → Nat → Option Nat} {I : Nat → Nat → Int32} {J : Nat → Nat → Int64} {lo lo2 : List (Nat × Value)} {st : List Value}
theorem up_I {a i : Nat} {x : Int32} : upd (I a) i x = u2_ I a i x a := by funext j; simp [upd, u2_]
theorem up_J {a i : Nat} {x : Int64} : vp_updL (J a) i x = u2_ J a i x a := by funext j; simp [vp_updL, u2_]
theorem up_R {a i : Nat} {x : Option Nat} : va_up (R a) i x = u2_ R a i x a := by funext j; simp [va_up, u2_]
/-- rows are copied: n of b from sp on into a from dp on -/
def c2_ {α : Type} (f : Nat → Nat → α) (b a sp dp n : Nat) : Nat → Nat → α := fun q j => if q = a then va_cpy (f b) (f a) sp dp n j else f q j
theorem c2_b {α : Type} {f : Nat → Nat → α} {b a sp dp n q j : Nat} (h : q ≠ a) : c2_ f b a sp dp n q j = f q j := by simp [c2_, h]
theorem c2_k {α : Type} {κ : Nat → Nat} {f : Nat → Nat → α} {b a sp dp n q j : Nat} (h : κ q ≠ κ a) : c2_ f b a sp dp n q j = f q j := c2_b (fun e => h (by rw [e]))
theorem c2_s {α : Type} {f : Nat → Nat → α} {b a sp dp n : Nat} : c2_ f b a sp dp n a = va_cpy (f b) (f a) sp dp n := by funext j; simp [c2_]
theorem g_iald (C : CallFix p m c cc nL s args GT own) (K : Wc_ D cy A L s) {a : Nat} (ha : a ∈ L) (hk : κ a = 14) {i v : Int32} (hin : vp_in i (ln a)) (hv : I a i.toNatClampNeg = v) (hd : decode cc pc = .ok (.iaload, 1)) (kk : WG p l e Rm s m args below meth c nL cells slots Q D cy A H0 L κ ln R I J (pc + 1) lo (.int v :: st)) : WG p l e Rm s m args below meth c nL cells slots Q D cy A H0 L κ ln R I J pc lo (.int i :: .ref a :: st) := by
  intro H locs ls hP hS hl
  obtain ⟨q, hq⟩ := pl_at (f := cel_ cy κ ln R I J) ha
  rw [cel_i hk (by decide)] at hq
  subst hv
  exact va_iald C.1 C.2.1 K.2.2 hP q 1 hq rfl hin hd (kk H locs ls hP hS hl)
theorem g_bald (C : CallFix p m c cc nL s args GT own) (K : Wc_ D cy A L s) {a : Nat} (ha : a ∈ L) (hk : κ a = 13) {i v : Int32} (hin : vp_in i (ln a)) (hv : I a i.toNatClampNeg = v) (hd : decode cc pc = .ok (.baload, 1)) (kk : WG p l e Rm s m args below meth c nL cells slots Q D cy A H0 L κ ln R I J (pc + 1) lo (.int v :: st)) : WG p l e Rm s m args below meth c nL cells slots Q D cy A H0 L κ ln R I J pc lo (.int i :: .ref a :: st) := by
  intro H locs ls hP hS hl
  obtain ⟨q, hq⟩ := pl_at (f := cel_ cy κ ln R I J) ha
  rw [cel_i hk (by decide)] at hq
  subst hv
  exact va_bald C.1 C.2.1 K.2.2 hP q 0 hq rfl hin hd (kk H locs ls hP hS hl)
theorem g_zald (C : CallFix p m c cc nL s args GT own) (K : Wc_ D cy A L s) {a : Nat} (ha : a ∈ L) (hk : κ a = 16) {i v : Int32} (hin : vp_in i (ln a)) (hv : I a i.toNatClampNeg = v) (hd : decode cc pc = .ok (.baload, 1)) (kk : WG p l e Rm s m args below meth c nL cells slots Q D cy A H0 L κ ln R I J (pc + 1) lo (.int v :: st)) : WG p l e Rm s m args below meth c nL cells slots Q D cy A H0 L κ ln R I J pc lo (.int i :: .ref a :: st) := by
  intro H locs ls hP hS hl
  obtain ⟨q, hq⟩ := pl_at (f := cel_ cy κ ln R I J) ha
  rw [cel_i hk (by decide)] at hq
  subst hv
  exact va_zald C.1 C.2.1 K.2.2 hP q 3 hq rfl hin hd (kk H locs ls hP hS hl)
theorem g_lald (C : CallFix p m c cc nL s args GT own) (K : Wc_ D cy A L s) {a : Nat} (ha : a ∈ L) (hk : κ a = 15) {i : Int32} {v : Int64} (hin : vp_in i (ln a)) (hv : J a i.toNatClampNeg = v) (hd : decode cc pc = .ok (.laload, 1)) (kk : WG p l e Rm s m args below meth c nL cells slots Q D cy A H0 L κ ln R I J (pc + 1) lo (.long v :: st)) : WG p l e Rm s m args below meth c nL cells slots Q D cy A H0 L κ ln R I J pc lo (.int i :: .ref a :: st) := by
  intro H locs ls hP hS hl
  obtain ⟨q, hq⟩ := pl_at (f := cel_ cy κ ln R I J) ha
  rw [cel_l hk] at hq
  subst hv
  exact va_lald C.1 C.2.1 K.2.2 hP q 2 hq rfl hin hd (kk H locs ls hP hS hl)
theorem g_aaldC (C : CallFix p m c cc nL s args GT own) (K : Wc_ D cy A L s) {a : Nat} (ha : a ∈ L) (hk : κ a = 17) {i : Int32} {b : Nat} (hin : vp_in i (ln a)) (hv : R a i.toNatClampNeg = some b) (hd : decode cc pc = .ok (.aaload, 1)) (kk : WG p l e Rm s m args below meth c nL cells slots Q D cy A H0 L κ ln R I J (pc + 1) lo (.ref b :: st)) : WG p l e Rm s m args below meth c nL cells slots Q D cy A H0 L κ ln R I J pc lo (.int i :: .ref a :: st) := by
  intro H locs ls hP hS hl
  obtain ⟨q, hq⟩ := pl_at (f := cel_ cy κ ln R I J) ha
  rw [cel_r hk (by decide)] at hq
  refine va_aldq C.1 C.2.1 K.2.2 hP q 4 hq rfl hin hd ?_
  rw [hv]
  exact kk H locs ls hP hS hl
theorem g_aaldI (C : CallFix p m c cc nL s args GT own) (K : Wc_ D cy A L s) {a : Nat} (ha : a ∈ L) (hk : κ a = 18) {i : Int32} {b : Nat} (hin : vp_in i (ln a)) (hv : R a i.toNatClampNeg = some b) (hd : decode cc pc = .ok (.aaload, 1)) (kk : WG p l e Rm s m args below meth c nL cells slots Q D cy A H0 L κ ln R I J (pc + 1) lo (.ref b :: st)) : WG p l e Rm s m args below meth c nL cells slots Q D cy A H0 L κ ln R I J pc lo (.int i :: .ref a :: st) := by
  intro H locs ls hP hS hl
  obtain ⟨q, hq⟩ := pl_at (f := cel_ cy κ ln R I J) ha
  rw [cel_r hk (by decide)] at hq
  refine va_aldq C.1 C.2.1 K.2.2 hP q 5 hq rfl hin hd ?_
  rw [hv]
  exact kk H locs ls hP hS hl
theorem g_iast (C : CallFix p m c cc nL s args GT own) (K : Wc_ D cy A L s) {a : Nat} (ha : a ∈ L) (hk : κ a = 14) {i v : Int32} (hin : vp_in i (ln a)) (hd : decode cc pc = .ok (.iastore, 1)) (kk : WG p l e Rm s m args below meth c nL cells slots Q D cy A H0 L κ ln R (u2_ I a i.toNatClampNeg v) J (pc + 1) lo st) : WG p l e Rm s m args below meth c nL cells slots Q D cy A H0 L κ ln R I J pc lo (.int v :: .int i :: .ref a :: st) := by
  intro H locs ls hP hS hl
  have hD := pl_D K.1 K.2.1 (cel_ cy κ ln R I J)
  obtain ⟨q, hq0⟩ := pl_at (f := cel_ cy κ ln R I J) ha
  have hq := hq0
  rw [cel_i hk (by decide)] at hq
  refine va_iast C.1 C.2.1 K.2.2 hP hD hS q 1 hq rfl hin hd (fun H1 locs1 hP1 _ hS1 => ?_)
  rw [up_I, pl_set (g := cel_ cy κ ln R (u2_ I a i.toNatClampNeg v) J) hD ha hq0 (fun b => ?_)] at hP1
  · exact kk H1 locs1 ls hP1 hS1 hl
  · by_cases hb : b = a
    · subst hb; rw [va_up_self, cel_i hk (by decide)]
    · rw [va_up_ne _ _ hb]; exact cel_cong rfl rfl (fun j => (u2_b hb).symm) (fun _ => rfl) (fun _ => rfl)
theorem g_last (C : CallFix p m c cc nL s args GT own) (K : Wc_ D cy A L s) {a : Nat} (ha : a ∈ L) (hk : κ a = 15) {i : Int32} {v : Int64} (hin : vp_in i (ln a)) (hd : decode cc pc = .ok (.lastore, 1)) (kk : WG p l e Rm s m args below meth c nL cells slots Q D cy A H0 L κ ln R I (u2_ J a i.toNatClampNeg v) (pc + 1) lo st) : WG p l e Rm s m args below meth c nL cells slots Q D cy A H0 L κ ln R I J pc lo (.long v :: .int i :: .ref a :: st) := by
  intro H locs ls hP hS hl
  have hD := pl_D K.1 K.2.1 (cel_ cy κ ln R I J)
  obtain ⟨q, hq0⟩ := pl_at (f := cel_ cy κ ln R I J) ha
  have hq := hq0
  rw [cel_l hk] at hq
  refine va_last C.1 C.2.1 K.2.2 hP hD hS q 2 hq rfl hin hd (fun H1 locs1 hP1 _ hS1 => ?_)
  rw [up_J, pl_set (g := cel_ cy κ ln R I (u2_ J a i.toNatClampNeg v)) hD ha hq0 (fun b => ?_)] at hP1
  · exact kk H1 locs1 ls hP1 hS1 hl
  · by_cases hb : b = a
    · subst hb; rw [va_up_self, cel_l hk]
    · rw [va_up_ne _ _ hb]; exact cel_cong rfl rfl (fun _ => rfl) (fun j => (u2_b hb).symm) (fun _ => rfl)
theorem g_aastC (C : CallFix p m c cc nL s args GT own) (K : Wc_ D cy A L s) {a : Nat} (ha : a ∈ L) (hk : κ a = 17) {i : Int32} {v : Nat} (hv : v ∈ L) (hkv : κ v = 1) (hin : vp_in i (ln a)) (hd : decode cc pc = .ok (.aastore, 1)) (kk : WG p l e Rm s m args below meth c nL cells slots Q D cy A H0 L κ ln (u2_ R a i.toNatClampNeg (some v)) I J (pc + 1) lo st) : WG p l e Rm s m args below meth c nL cells slots Q D cy A H0 L κ ln R I J pc lo (.ref v :: .int i :: .ref a :: st) := by
  intro H locs ls hP hS hl
  have hD := pl_D K.1 K.2.1 (cel_ cy κ ln R I J)
  obtain ⟨q, hq0⟩ := pl_at (f := cel_ cy κ ln R I J) ha
  obtain ⟨qv, hqv⟩ := pl_at (f := cel_ cy κ ln R I J) hv
  have hq := hq0
  rw [cel_r hk (by decide)] at hq
  rw [cel_o hkv (by decide)] at hqv
  refine va_astq C.1 C.2.1 K.2.2 hP hD hS q 4 qv 1 hq (r := (RX1, TX1, 14)) rfl hqv rfl hin hd (fun H1 locs1 hP1 _ hS1 => ?_)
  rw [up_R, pl_set (g := cel_ cy κ ln (u2_ R a i.toNatClampNeg (some v)) I J) hD ha hq0 (fun b => ?_)] at hP1
  · exact kk H1 locs1 ls hP1 hS1 hl
  · by_cases hb : b = a
    · subst hb; rw [va_up_self, cel_r hk (by decide)]
    · rw [va_up_ne _ _ hb]; exact cel_cong rfl rfl (fun _ => rfl) (fun _ => rfl) (fun j => (u2_b hb).symm)
theorem g_aastI (C : CallFix p m c cc nL s args GT own) (K : Wc_ D cy A L s) {a : Nat} (ha : a ∈ L) (hk : κ a = 18) {i : Int32} {v : Nat} (hv : v ∈ L) (hkv : κ v = 3) (hin : vp_in i (ln a)) (hd : decode cc pc = .ok (.aastore, 1)) (kk : WG p l e Rm s m args below meth c nL cells slots Q D cy A H0 L κ ln (u2_ R a i.toNatClampNeg (some v)) I J (pc + 1) lo st) : WG p l e Rm s m args below meth c nL cells slots Q D cy A H0 L κ ln R I J pc lo (.ref v :: .int i :: .ref a :: st) := by
  intro H locs ls hP hS hl
  have hD := pl_D K.1 K.2.1 (cel_ cy κ ln R I J)
  obtain ⟨q, hq0⟩ := pl_at (f := cel_ cy κ ln R I J) ha
  obtain ⟨qv, hqv⟩ := pl_at (f := cel_ cy κ ln R I J) hv
  have hq := hq0
  rw [cel_r hk (by decide)] at hq
  rw [cel_o hkv (by decide)] at hqv
  refine va_astq C.1 C.2.1 K.2.2 hP hD hS q 5 qv 3 hq (r := (RX3, TX3, 4)) rfl hqv rfl hin hd (fun H1 locs1 hP1 _ hS1 => ?_)
  rw [up_R, pl_set (g := cel_ cy κ ln (u2_ R a i.toNatClampNeg (some v)) I J) hD ha hq0 (fun b => ?_)] at hP1
  · exact kk H1 locs1 ls hP1 hS1 hl
  · by_cases hb : b = a
    · subst hb; rw [va_up_self, cel_r hk (by decide)]
    · rw [va_up_ne _ _ hb]; exact cel_cong rfl rfl (fun _ => rfl) (fun _ => rfl) (fun j => (u2_b hb).symm)
theorem g_alenB (C : CallFix p m c cc nL s args GT own) (K : Wc_ D cy A L s) {a : Nat} (ha : a ∈ L) (hk : κ a = 13) {v : Int32} (hv : Int32.ofNat (ln a) = v) (hd : decode cc pc = .ok (.arraylength, 1)) (kk : WG p l e Rm s m args below meth c nL cells slots Q D cy A H0 L κ ln R I J (pc + 1) lo (.int v :: st)) : WG p l e Rm s m args below meth c nL cells slots Q D cy A H0 L κ ln R I J pc lo (.ref a :: st) := by
  intro H locs ls hP hS hl
  obtain ⟨q, hq⟩ := pl_at (f := cel_ cy κ ln R I J) ha
  rw [cel_i hk (by decide)] at hq
  exact va_alen C.1 C.2.1 K.2.2 hP q 0 hq rfl hv hd (kk H locs ls hP hS hl)
theorem g_alenI (C : CallFix p m c cc nL s args GT own) (K : Wc_ D cy A L s) {a : Nat} (ha : a ∈ L) (hk : κ a = 14) {v : Int32} (hv : Int32.ofNat (ln a) = v) (hd : decode cc pc = .ok (.arraylength, 1)) (kk : WG p l e Rm s m args below meth c nL cells slots Q D cy A H0 L κ ln R I J (pc + 1) lo (.int v :: st)) : WG p l e Rm s m args below meth c nL cells slots Q D cy A H0 L κ ln R I J pc lo (.ref a :: st) := by
  intro H locs ls hP hS hl
  obtain ⟨q, hq⟩ := pl_at (f := cel_ cy κ ln R I J) ha
  rw [cel_i hk (by decide)] at hq
  exact va_alen C.1 C.2.1 K.2.2 hP q 1 hq rfl hv hd (kk H locs ls hP hS hl)
theorem g_alenJ (C : CallFix p m c cc nL s args GT own) (K : Wc_ D cy A L s) {a : Nat} (ha : a ∈ L) (hk : κ a = 15) {v : Int32} (hv : Int32.ofNat (ln a) = v) (hd : decode cc pc = .ok (.arraylength, 1)) (kk : WG p l e Rm s m args below meth c nL cells slots Q D cy A H0 L κ ln R I J (pc + 1) lo (.int v :: st)) : WG p l e Rm s m args below meth c nL cells slots Q D cy A H0 L κ ln R I J pc lo (.ref a :: st) := by
  intro H locs ls hP hS hl
  obtain ⟨q, hq⟩ := pl_at (f := cel_ cy κ ln R I J) ha
  rw [cel_l hk] at hq
  exact va_alen C.1 C.2.1 K.2.2 hP q 2 hq rfl hv hd (kk H locs ls hP hS hl)
theorem g_copyI (C : CallFix p m c cc nL s args GT own) (K : Wc_ D cy A L s) {a b idx : Nat} (ha : a ∈ L) (hk : κ a = 14) (hb9 : b ∈ L) (hkb : κ b = 14) (hlk : Cond.methodLink own idx arraycopyName ∈ GT) (hnt : Cond.native arraycopyName ∈ GT) (hst : Cond.static arraycopyName ∈ GT) (hini : Cond.initialized "java/lang/System" ∈ GT) {sp dp n : Int32} (h1 : ¬ sp < 0) (h2 : ¬ dp < 0) (h3 : ¬ n < 0) (h4 : sp.toNatClampNeg + n.toNatClampNeg ≤ ln b) (h5 : dp.toNatClampNeg + n.toNatClampNeg ≤ ln a)
    (hfr : 1 ≤ Rm.frames) (hlc : (st.map fun v => v.category).sum + (nativeFrameWords "java/lang/System" "arraycopy" 5 + 11) ≤ Rm.locals) (hd : decode cc pc = .ok (.invokestatic idx, 3)) (kk : WG p l e Rm s m args below meth c nL cells slots Q D cy A H0 L κ ln R (c2_ I b a sp.toNatClampNeg dp.toNatClampNeg n.toNatClampNeg) J (pc + 3) lo st) : WG p l e Rm s m args below meth c nL cells slots Q D cy A H0 L κ ln R I J pc lo (.int n :: .int dp :: .ref a :: .int sp :: .ref b :: st) := by
  intro H locs ls hP hS hl
  have hD := pl_D K.1 K.2.1 (cel_ cy κ ln R I J)
  obtain ⟨q, hq0⟩ := pl_at (f := cel_ cy κ ln R I J) ha
  obtain ⟨q1, hq1⟩ := pl_at (f := cel_ cy κ ln R I J) hb9
  have hq := hq0
  rw [cel_i hk (by decide)] at hq
  rw [cel_i hkb (by decide)] at hq1
  refine va_copyi C.1 C.2.1 (by rw [C.2.2.1]; exact hl.1.symm) C.2.2.2.1 (C.2.2.2.2 _ hlk) (C.2.2.2.2 _ hnt) (C.2.2.2.2 _ hst) (C.2.2.2.2 _ hini) K.2.2 hP hD hS q1 q 1 1 (ty := .int) hq1 hq rfl rfl rfl h1 h2 h3 h4 h5 (fun _ _ => rfl) hfr hlc hd (fun H1 locs1 hP1 _ hS1 => ?_)
  rw [← c2_s, pl_set (g := cel_ cy κ ln R (c2_ I b a sp.toNatClampNeg dp.toNatClampNeg n.toNatClampNeg) J) hD ha hq0 (fun b => ?_)] at hP1
  · exact kk H1 locs1 ls hP1 hS1 hl
  · by_cases hb : b = a
    · subst hb; rw [va_up_self, cel_i hk (by decide)]
    · rw [va_up_ne _ _ hb]; exact cel_cong rfl rfl (fun j => (c2_b hb).symm) (fun _ => rfl) (fun _ => rfl)
theorem g_copyJ (C : CallFix p m c cc nL s args GT own) (K : Wc_ D cy A L s) {a b idx : Nat} (ha : a ∈ L) (hk : κ a = 15) (hb9 : b ∈ L) (hkb : κ b = 15) (hlk : Cond.methodLink own idx arraycopyName ∈ GT) (hnt : Cond.native arraycopyName ∈ GT) (hst : Cond.static arraycopyName ∈ GT) (hini : Cond.initialized "java/lang/System" ∈ GT) {sp dp n : Int32} (h1 : ¬ sp < 0) (h2 : ¬ dp < 0) (h3 : ¬ n < 0) (h4 : sp.toNatClampNeg + n.toNatClampNeg ≤ ln b) (h5 : dp.toNatClampNeg + n.toNatClampNeg ≤ ln a)
    (hfr : 1 ≤ Rm.frames) (hlc : (st.map fun v => v.category).sum + (nativeFrameWords "java/lang/System" "arraycopy" 5 + 11) ≤ Rm.locals) (hd : decode cc pc = .ok (.invokestatic idx, 3)) (kk : WG p l e Rm s m args below meth c nL cells slots Q D cy A H0 L κ ln R I (c2_ J b a sp.toNatClampNeg dp.toNatClampNeg n.toNatClampNeg) (pc + 3) lo st) : WG p l e Rm s m args below meth c nL cells slots Q D cy A H0 L κ ln R I J pc lo (.int n :: .int dp :: .ref a :: .int sp :: .ref b :: st) := by
  intro H locs ls hP hS hl
  have hD := pl_D K.1 K.2.1 (cel_ cy κ ln R I J)
  obtain ⟨q, hq0⟩ := pl_at (f := cel_ cy κ ln R I J) ha
  obtain ⟨q1, hq1⟩ := pl_at (f := cel_ cy κ ln R I J) hb9
  have hq := hq0
  rw [cel_l hk] at hq
  rw [cel_l hkb] at hq1
  refine va_copyl C.1 C.2.1 (by rw [C.2.2.1]; exact hl.1.symm) C.2.2.2.1 (C.2.2.2.2 _ hlk) (C.2.2.2.2 _ hnt) (C.2.2.2.2 _ hst) (C.2.2.2.2 _ hini) K.2.2 hP hD hS q1 q 2 2 (ty := .long) hq1 hq rfl rfl rfl h1 h2 h3 h4 h5 (fun _ _ => rfl) hfr hlc hd (fun H1 locs1 hP1 _ hS1 => ?_)
  rw [← c2_s, pl_set (g := cel_ cy κ ln R I (c2_ J b a sp.toNatClampNeg dp.toNatClampNeg n.toNatClampNeg)) hD ha hq0 (fun b => ?_)] at hP1
  · exact kk H1 locs1 ls hP1 hS1 hl
  · by_cases hb : b = a
    · subst hb; rw [va_up_self, cel_l hk]
    · rw [va_up_ne _ _ hb]; exact cel_cong rfl rfl (fun _ => rfl) (fun j => (c2_b hb).symm) (fun _ => rfl)
end GA
