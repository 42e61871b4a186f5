/-! orders and seats -/
section ORD
variable {L : List Nat} {κ ln : Nat → Nat} {R : Nat → Nat → Option Nat} {ow : Nat → Nat × Nat} {I I1 I2 I3 I4 I5 I0 : Nat → Nat → Int32} {a b c j r x k k2 t ci n o1 o2 : Nat} {v : Int32} {lo hi : Int} {T T2 : List Nat}
theorem bc_rm {s p z : Int32} (h : Rg 0 127 s) (hp : Rg 0 6 p) (hs : s >>> (p &&& 31) &&& 1 = 1) (hz : s &&& ((1 <<< (p &&& 31)) ^^^ (-1)) = z) : (bc_ z).toInt + 1 ≤ (bc_ s).toInt := by
  subst hz
  obtain ⟨n, h1, rfl⟩ := rg_case (m := 127) h
  obtain ⟨q, h2, rfl⟩ := rg_case (m := 6) hp
  have : ∀ q : Fin 7, ∀ n : Fin 128, Int32.ofNat n.1 >>> (Int32.ofNat q.1 &&& 31) &&& 1 = 1 → (bc_ (Int32.ofNat n.1 &&& ((1 <<< (Int32.ofNat q.1 &&& 31)) ^^^ (-1)))).toInt + 1 ≤ (bc_ (Int32.ofNat n.1)).toInt := by decide +kernel
  exact this ⟨q, by omega⟩ ⟨n, by omega⟩ hs
theorem bc_z {s : Int32} (h : Rg 0 127 s) (h0 : (bc_ s).toInt ≤ 0) : Rg 0 0 s := by
  obtain ⟨n, h1, rfl⟩ := rg_case (m := 127) h
  have : ∀ n : Fin 128, (bc_ (Int32.ofNat n.1)).toInt ≤ 0 → (Int32.ofNat n.1).toInt = 0 := by decide +kernel
  have q : (Int32.ofNat n).toInt = 0 := this ⟨n, by omega⟩ h0
  unfold Rg; omega
/-- what is held from k on is as what is now may be -/
def Gh_ (R : Nat → Nat → Option Nat) (x : Nat) (I : Nat → Nat → Int32) (k : Nat) : Prop := ∀ a h, R x 14 = some a → R x 28 = some h → Gs (I a) (fun i => I h (k + i))
/-- below k what is held is as it was -/
def Hl_ (R : Nat → Nat → Option Nat) (x : Nat) (I I2 : Nat → Nat → Int32) (k : Nat) : Prop := ∀ h, R x 28 = some h → ∀ j, j < k → I2 h j = I h j
theorem hl_rf : Hl_ R x I I k := fun _ _ _ _ => rfl
theorem hl_u (W9 : ∀ a ∈ L, Shp L κ ln R ow a) (hx : x ∈ L) (hk : κ x = 12) (h : Hl_ R x I I1 k) (e : I2 = u2_ I1 c n v) (hc : ro_ κ ow c = r ∧ r ≠ 848) : Hl_ R x I I2 k := fun a ha j hj => by
  obtain ⟨-, a2, -⟩ := rw_in W9 hx hk (k := 28) (t := 14) (n := 525) rfl (by decide) ha
  rw [e, u2_b (ne_ro a2 hc.1 (Ne.symm hc.2))]; exact h a ha j hj
theorem hl_fq (W9 : ∀ a ∈ L, Shp L κ ln R ow a) (hx : x ∈ L) (hk : κ x = 12) (h : Hl_ R x I I1 k) (hF : Fq L κ ow T I1 I2) (hT : 84800 ∉ T) : Hl_ R x I I2 k := fun a ha j hj => by
  obtain ⟨a1, a2, -⟩ := rw_in W9 hx hk (k := 28) (t := 14) (n := 525) rfl (by decide) ha
  exact fq_ar hF a1 a2 (by decide) hT (h a ha j hj)
theorem hl_t (h : Hl_ R x I I1 k) (h2 : Hl_ R x I1 I2 k2) (hk : k ≤ k2) : Hl_ R x I I2 k := fun a ha j hj => (h2 a ha j (by omega)).trans (h a ha j hj)
theorem hl_c (W9 : ∀ a ∈ L, Shp L κ ln R ow a) (hx : x ∈ L) (hk : κ x = 12) (h : Hl_ R x I I1 k) (e : I2 = cpn_ I1 b c o2 o1 n) (hc : (ro_ κ ow c = r ∧ r ≠ 848) ∨ k ≤ o1) : Hl_ R x I I2 k := fun a ha j hj => by
  obtain ⟨-, a2, -⟩ := rw_in W9 hx hk (k := 28) (t := 14) (n := 525) rfl (by decide) ha
  rw [e]
  rcases hc with hc | hc
  · rw [cpn_b (ne_ro a2 hc.1 (Ne.symm hc.2))]; exact h a ha j hj
  · unfold cpn_; rw [if_neg (by omega)]; exact h a ha j hj
theorem gh_lay (W9 : ∀ a ∈ L, Shp L κ ln R ow a) (h : Gm L κ R I) (hx : x ∈ L) (hk : κ x = 12) (ha : R x 14 = some a) (hb : R x 28 = some b) (e : I2 = cpn_ I a b 72 k 75) : Gh_ R x I2 k := fun a' s h1 h2 => by
  rw [ha] at h1; cases h1; rw [hb] at h2; cases h2
  obtain ⟨-, a2, -⟩ := rw_in W9 hx hk (k := 14) (t := 14) (n := 389) rfl (by decide) ha
  obtain ⟨-, b2, -⟩ := rw_in W9 hx hk (k := 28) (t := 14) (n := 525) rfl (by decide) hb
  have ea : I2 a = I a := funext fun j => by rw [e, cpn_b (ne_ro a2 b2 (by decide))]
  rw [ea]
  exact gs_ext (gm_gs W9 h hx hk ha) (fun _ _ => rfl) (fun i hi => by rw [e, cpn_i hi])
theorem gh_mv (W9 : ∀ a ∈ L, Shp L κ ln R ow a) (hx : x ∈ L) (hk : κ x = 12) (h : Gh_ R x I k) (hd : Hd_ R x I I2) (hF : Fq L κ ow T I I2) (hT : 84800 ∉ T) : Gh_ R x I2 k := fun a s h1 h2 => by
  obtain ⟨b1, b2, -⟩ := rw_in W9 hx hk (k := 28) (t := 14) (n := 525) rfl (by decide) h2
  exact gs_ext (h a s h1 h2) (fun p hp => hd a h1 _ (by omega)) (fun i _ => fq_ar hF b1 b2 (by decide) hT rfl)
theorem gh_of (h : Gh_ R x I k) (hd : Hd_ R x I I2) (hl : Hl_ R x I I2 k2) (hk : k + 75 ≤ k2) : Gh_ R x I2 k := fun a s h1 h2 =>
  gs_ext (h a s h1 h2) (fun p hp => hd a h1 _ (by omega)) (fun i hi => hl s h2 _ (by omega))
theorem gh_u (W9 : ∀ a ∈ L, Shp L κ ln R ow a) (hx : x ∈ L) (hk : κ x = 12) (h : Gh_ R x I k) (e : I2 = u2_ I c n v) (hc : ro_ κ ow c = r ∧ r ≠ 834 ∧ r ≠ 848) : Gh_ R x I2 k := fun a s h1 h2 => by
  obtain ⟨-, a2, -⟩ := rw_in W9 hx hk (k := 14) (t := 14) (n := 389) rfl (by decide) h1
  obtain ⟨-, b2, -⟩ := rw_in W9 hx hk (k := 28) (t := 14) (n := 525) rfl (by decide) h2
  exact gs_ext (h a s h1 h2) (fun p hp => by rw [e, u2_b (ne_ro a2 hc.1 (Ne.symm hc.2.1))]) (fun i _ => by rw [e, u2_b (ne_ro b2 hc.1 (Ne.symm hc.2.2))])
theorem gh_c (W9 : ∀ a ∈ L, Shp L κ ln R ow a) (hx : x ∈ L) (hk : κ x = 12) (ha : R x 14 = some a) (h : Gh_ R x I k) (e : I2 = cpn_ I b a o2 72 n) : Gh_ R x I2 k := fun a' s h1 h2 => by
  rw [ha] at h1; cases h1
  obtain ⟨-, a2, -⟩ := rw_in W9 hx hk (k := 14) (t := 14) (n := 389) rfl (by decide) ha
  obtain ⟨-, b2, -⟩ := rw_in W9 hx hk (k := 28) (t := 14) (n := 525) rfl (by decide) h2
  exact gs_ext (h a s ha h2) (fun p hp => by rw [e, cpn_o (by omega)]) (fun i _ => by rw [e, cpn_b (ne_ro b2 a2 (by decide))])
end ORD
section ROWS60F
variable {p : Program} {l : Launch} {e : Env} {Rm : Room} {s : State} {m : MethodId} {args : Array Value} {below : List Frame} {meth : Method} {c : Code} {cells slots : Nat} {Q : State → Prop}
variable {cc : ByteArray} {pc nL : Nat} {own : String} {D : va_G} {cy : Nat → ClassId} {A : Nat → Prop} {H0 : Heap} {L : List Nat} {κ ln : Nat → Nat} {R : Nat → Nat → Option Nat} {I : Nat → Nat → Int32} {J : Nat → Nat → Int64} {lo lo2 : List (Nat × Value)} {st : List Value}
theorem g_lcmpO (C : CallFix p m c cc nL s args GT own) {x y : Int64} (hd : decode cc pc = .ok (.lcmp, 1)) (kk : ∀ z, Rg (-1) 1 z → ((0 : Int32) ≤ z → y.toInt ≤ x.toInt) → WG p l e Rm s m args below meth c nL cells slots Q D cy A H0 L κ ln R I J (pc + 1) lo (.int z :: st)) : WG p l e Rm s m args below meth c nL cells slots Q D cy A H0 L κ ln R I J pc lo (.long y :: .long x :: st) := by
  intro H locs ls hP hS hl T hT X
  have hexec := C.1
  have hb := C.2.1
  by_cases c1 : x > y
  · obtain ⟨t, a, b⟩ := kk 1 ⟨by decide, by decide⟩ (fun _ => Int.le_of_lt (Int64.lt_iff_toInt_lt.mp c1)) H locs ls hP hS hl T hT X
    refine ⟨t, ?_, b⟩
    jvm_step X.here [X.here.top, hexec, hb, hd, c1]
    exact a
  · by_cases c2 : x = y
    · obtain ⟨t, a, b⟩ := kk 0 ⟨by decide, by decide⟩ (fun _ => by rw [c2]; exact Int.le_refl _) H locs ls hP hS hl T hT X
      refine ⟨t, ?_, b⟩
      jvm_step X.here [X.here.top, hexec, hb, hd, c1, c2]
      exact a
    · obtain ⟨t, a, b⟩ := kk (-1) ⟨by decide, by decide⟩ (fun h => absurd h (by decide)) H locs ls hP hS hl T hT X
      refine ⟨t, ?_, b⟩
      jvm_step X.here [X.here.top, hexec, hb, hd, c1, c2]
      exact a
theorem g_ldivE (C : CallFix p m c cc nL s args GT own) {x y v : Int64} (hd : decode cc pc = .ok (.ldiv, 1)) (hne : ¬ y = 0) (hv : x / y = v) (kk : WG p l e Rm s m args below meth c nL cells slots Q D cy A H0 L κ ln R I J (pc + 1) lo (.long v :: st)) : WG p l e Rm s m args below meth c nL cells slots Q D cy A H0 L κ ln R I J pc lo (.long y :: .long x :: st) := fun H locs ls hP hS hl => lv_ldiv C.1 C.2.1 hd hne (by rw [hv]; exact kk H locs ls hP hS hl)
end ROWS60F
theorem ld_27 {x v : Int64} {k k2 : Int} (hx : (27 : Int64).toInt ≤ x.toInt) (hv : x / 27 = v) (h : x.toInt < k) (hk : k ≤ 27 * k2) : v.toInt < k2 := by
  have e27 : (27 : Int64).toInt = 27 := by decide
  have e : (x / 27).toInt = x.toInt / 27 := by
    rw [Int64.toInt_div, e27, Int.tdiv_eq_ediv_of_nonneg (by omega)]
    have := x.toInt_lt
    exact Int.bmod_eq_of_le (by omega) (by omega)
  rw [← hv, e]; omega
theorem ex_divk {b k hi : Int} {x y : Int32} (hx : Rg 0 b x) (hy : Rg k k y) (hk : 1 ≤ k) (hh : b / k = hi) : ∃ z, x / y = z ∧ Rg 0 hi z := by
  have ey : k = y.toInt := by unfold Rg at hy; omega
  subst ey
  have e := i_div (x := x) (y := y) hx.1 (by omega)
  have q1 : 0 ≤ x.toInt / y.toInt := Int.ediv_nonneg hx.1 (by omega)
  have q2 : x.toInt / y.toInt ≤ b / y.toInt := Int.ediv_le_ediv (by omega) hx.2
  exact ⟨_, rfl, ⟨by omega, by omega⟩⟩
section TXT
variable {L : List Nat} {κ ln : Nat → Nat} {R : Nat → Nat → Option Nat} {ow : Nat → Nat × Nat} {I I1 I2 I3 I4 I5 I0 : Nat → Nat → Int32} {a b c j r x k k2 t ci n o1 o2 : Nat} {v : Int32} {lo hi : Int} {T T2 : List Nat}
theorem tx_b {m k lo hi a b : Int} {v : Int32} (h : (I x j).toInt + m ≤ (I2 x j).toInt ∧ (I2 x j).toInt ≤ (I x j).toInt + k) (hv : I x j = v) (hr : Rg a b v) (e1 : lo ≤ a + m) (e2 : b + k ≤ hi) : ∃ z, I2 x j = z ∧ Rg lo hi z ∧ v.toInt + m ≤ z.toInt ∧ z.toInt ≤ v.toInt + k := by
  rw [hv] at h
  unfold Rg at *
  exact ⟨_, rfl, ⟨by omega, by omega⟩, h.1, h.2⟩
theorem tx_m {m k : Int} {v z : Int32} (e1 : I x j = v) (e2 : I2 x j = z) (h : v.toInt + m ≤ z.toInt ∧ z.toInt ≤ v.toInt + k) : (I x j).toInt + m ≤ (I2 x j).toInt ∧ (I2 x j).toInt ≤ (I x j).toInt + k := by rw [e1, e2]; exact h
/-- a sentence is read: nodes (47), ones (48), the top (50) -/
def Sy_ (x : Nat) (I I2 : Nat → Nat → Int32) : Prop := (I x 47).toInt ≤ (I2 x 47).toInt ∧ (I x 48).toInt + 1 ≤ (I2 x 48).toInt ∧ 2 * (I x 48).toInt - (I x 47).toInt + 1 ≤ 2 * (I2 x 48).toInt - (I2 x 47).toInt ∧ (I2 x 50).toInt < (I2 x 47).toInt
theorem sy_v {n o n2 o2 t2 : Int32} (e1 : I x 47 = n) (e2 : I x 48 = o) (e3 : I2 x 47 = n2) (e4 : I2 x 48 = o2) (e5 : I2 x 50 = t2) (h : Sy_ x I I2) : n.toInt ≤ n2.toInt ∧ o.toInt + 1 ≤ o2.toInt ∧ 2 * o.toInt - n.toInt + 1 ≤ 2 * o2.toInt - n2.toInt ∧ t2.toInt < n2.toInt := by
  unfold Sy_ at h; rw [e1, e2, e3, e4, e5] at h; exact h
theorem sy_m {n o n2 o2 t2 : Int32} (e1 : I x 47 = n) (e2 : I x 48 = o) (e3 : I2 x 47 = n2) (e4 : I2 x 48 = o2) (e5 : I2 x 50 = t2) (h : n.toInt ≤ n2.toInt ∧ o.toInt + 1 ≤ o2.toInt ∧ 2 * o.toInt - n.toInt + 1 ≤ 2 * o2.toInt - n2.toInt ∧ t2.toInt < n2.toInt) : Sy_ x I I2 := by
  unfold Sy_; rw [e1, e2, e3, e4, e5]; exact h
def Sl_ (x : Nat) (I I2 : Nat → Nat → Int32) : Prop := (I2 x 47).toInt = (I x 47).toInt + 1 ∧ (I2 x 50).toInt < (I2 x 47).toInt
theorem sl_v {n n2 t2 : Int32} (e1 : I x 47 = n) (e3 : I2 x 47 = n2) (e5 : I2 x 50 = t2) (h : Sl_ x I I2) : n2.toInt = n.toInt + 1 ∧ t2.toInt < n2.toInt := by
  unfold Sl_ at h; rw [e1, e3, e5] at h; exact h
theorem sl_m {n n2 t2 : Int32} (e1 : I x 47 = n) (e3 : I2 x 47 = n2) (e5 : I2 x 50 = t2) (h : n2.toInt = n.toInt + 1 ∧ t2.toInt < n2.toInt) : Sl_ x I I2 := by
  unfold Sl_; rw [e1, e3, e5]; exact h
def No_ (w a b : Int32) (n : Int) : Prop := ((w = 1 ∨ w = 2 ∨ w = 3) → 0 ≤ a.toInt ∧ a.toInt < n) ∧ ((w = 2 ∨ w = 3) → 0 ≤ b.toInt ∧ b.toInt < n) ∧ (w = 73 → 0 ≤ a.toInt ∧ a.toInt ≤ 5)
theorem iw_say (W9 : ∀ a ∈ L, Shp L κ ln R ow a) (h : Iw L κ R ow I) (hU : Uw L κ ow I5) (hx : x ∈ L) (hk : κ x = 12) {nd m n1 n2 n3 n4 : Nat} (hr : R x 46 = some nd) {w a b c z : Int32} (e1 : I1 = u2_ I nd n1 w) (e2 : I2 = u2_ I1 nd n2 a) (e3 : I3 = u2_ I2 nd n3 b) (e4 : I4 = u2_ I3 nd n4 c) (e5 : I5 = u2_ I4 x 47 z) (h1 : n1 = 4 * m) (h2 : n2 = 4 * m + 1) (h3 : n3 = 4 * m + 2) (h4 : n4 = 4 * m + 3) (hN : No_ w a b (m : Int)) : Iw L κ R ow I5 :=
  ⟨hU, gm_mk h.2 hx hk (fun a' s k nd' rw q1 q2 q3 q4 q5 F => by
    rw [hr] at q4; cases q4
    obtain ⟨r0, r1, r2, r3, r4, r5⟩ := rl_ W9 hx hk q1 q2 q3 hr q5
    obtain ⟨g1, g2, g3, g4, g5, g6, g7⟩ := F
    have eo : ∀ c i, c ≠ nd → c ≠ x → I5 c i = I c i := fun c i hc hc2 => by rw [e5, u2_b hc2, e4, u2_b hc, e3, u2_b hc, e2, u2_b hc, e1, u2_b hc]
    have ex : ∀ i, i ≠ 47 → I5 x i = I x i := fun i hi => by rw [e5, u2_j hi, e4, u2_b (ne_ro r0 r4 (by decide)), e3, u2_b (ne_ro r0 r4 (by decide)), e2, u2_b (ne_ro r0 r4 (by decide)), e1, u2_b (ne_ro r0 r4 (by decide))]
    have en : ∀ i, I5 nd i = u2_ (u2_ (u2_ (u2_ I nd n1 w) nd n2 a) nd n3 b) nd n4 c nd i := fun i => by rw [e5, u2_b (ne_ro r4 r0 (by decide)), e4, e3, e2, e1]
    have ea : I5 a' = I a' := funext fun i => eo a' i (ne_ro r1 r4 (by decide)) (ne_ro r1 r0 (by decide))
    have eb : I5 s = I s := funext fun i => eo s i (ne_ro r2 r4 (by decide)) (ne_ro r2 r0 (by decide))
    have ec : I5 k = I k := funext fun i => eo k i (ne_ro r3 r4 (by decide)) (ne_ro r3 r0 (by decide))
    have ee : I5 rw = I rw := funext fun i => eo rw i (ne_ro r5 r4 (by decide)) (ne_ro r5 r0 (by decide))
    unfold Fc_
    rw [ea, eb, ec, ee, ex 23 (by decide), ex 44 (by decide)]
    refine ⟨g1, g2, g3, g4, g5, ?_, g7⟩
    intro k' hk'
    show ((I5 nd (4 * k') = 1 ∨ I5 nd (4 * k') = 2 ∨ I5 nd (4 * k') = 3) → 0 ≤ (I5 nd (4 * k' + 1)).toInt ∧ (I5 nd (4 * k' + 1)).toInt < k') ∧ ((I5 nd (4 * k') = 2 ∨ I5 nd (4 * k') = 3) → 0 ≤ (I5 nd (4 * k' + 2)).toInt ∧ (I5 nd (4 * k' + 2)).toInt < k') ∧ (I5 nd (4 * k') = 73 → 0 ≤ (I5 nd (4 * k' + 1)).toInt ∧ (I5 nd (4 * k' + 1)).toInt ≤ 5)
    by_cases q : k' = m
    · subst q
      have f0 : I5 nd (4 * k') = w := by rw [en, u2_j (by omega), u2_j (by omega), u2_j (by omega), ← h1, u2_s]
      have f1 : I5 nd (4 * k' + 1) = a := by rw [en, u2_j (by omega), u2_j (by omega), ← h2, u2_s]
      have f2 : I5 nd (4 * k' + 2) = b := by rw [en, u2_j (by omega), ← h3, u2_s]
      rw [f0, f1, f2]; exact hN
    · have f : ∀ i, i < 3 → I5 nd (4 * k' + i) = I nd (4 * k' + i) := fun i hi => by rw [en, u2_j (by omega), u2_j (by omega), u2_j (by omega), u2_j (by omega)]
      rw [f 1 (by omega), f 2 (by omega), show 4 * k' = 4 * k' + 0 from rfl, f 0 (by omega)]; exact g6 k' hk')⟩
/-- a node of the sentence that is now -/
theorem gm_tr (W9 : ∀ a ∈ L, Shp L κ ln R ow a) (h : Gm L κ R I) (hx : x ∈ L) (hk : κ x = 12) (ha : R x 14 = some a) : Tr (fun j => I a (149 + j)) := by
  obtain ⟨s, h2, -⟩ := shp_a (W9 x hx) hk 17 14 600 rfl (by decide)
  obtain ⟨k, h3, -⟩ := shp_a (W9 x hx) hk 16 14 778 rfl (by decide)
  obtain ⟨nd, h4, -⟩ := shp_a (W9 x hx) hk 46 14 240 rfl (by decide)
  obtain ⟨rw, h5, -⟩ := shp_a (W9 x hx) hk 42 14 160 rfl (by decide)
  exact (h.2 x hx hk a s k nd rw ha h2 h3 h4 h5).2.2.2.1
end TXT
section SAB
variable {I I2 : Nat → Nat → Int32} {x : Nat}
theorem sa_b {r v : Int32} {a b lo hi : Int} (h : r.toInt = (I x 47).toInt ∧ (I2 x 47).toInt = (I x 47).toInt + 1) (hv : I x 47 = v) (hr : Rg a b v) (e1 : lo ≤ a + 1) (e2 : b + 1 ≤ hi) : ∃ z, I2 x 47 = z ∧ Rg lo hi z ∧ z.toInt = v.toInt + 1 ∧ r.toInt = v.toInt := by
  rw [hv] at h
  unfold Rg at *
  exact ⟨_, rfl, ⟨by omega, by omega⟩, h.2, h.1⟩
end SAB
theorem pl_rg {n d : Int32} (h : 0 ≤ n.toInt ∧ n.toInt ≤ 379 * d.toInt) (hd : Rg 0 6 d) : Rg 0 2274 n := by unfold Rg at *; omega
theorem ho_a {g : Nat → Int32} {k i0 i1 : Nat} {w u : Int32} (h : Tr (fun j => g (149 + j))) (hk : k < 60) (h0 : i0 = 149 + 4 * k) (h1 : i1 = 149 + 4 * k + 1) (e0 : g i0 = w) (e1 : g i1 = u) (hw : w = 1 ∨ w = 2 ∨ w = 3) : 0 ≤ u.toInt ∧ u.toInt < k := by
  subst h0 h1
  have q := (h k hk).1
  have e2 : g (149 + (4 * k)) = w := e0
  have e3 : g (149 + (4 * k + 1)) = u := e1
  dsimp only at q
  rw [e2, e3] at q
  exact q hw
theorem ho_b {g : Nat → Int32} {k i0 i1 : Nat} {w u : Int32} (h : Tr (fun j => g (149 + j))) (hk : k < 60) (h0 : i0 = 149 + 4 * k) (h1 : i1 = 149 + 4 * k + 2) (e0 : g i0 = w) (e1 : g i1 = u) (hw : w = 2 ∨ w = 3) : 0 ≤ u.toInt ∧ u.toInt < k := by
  subst h0 h1
  have q := (h k hk).2.1
  have e2 : g (149 + (4 * k)) = w := e0
  have e3 : g (149 + (4 * k + 2)) = u := e1
  dsimp only at q
  rw [e2, e3] at q
  exact q hw
theorem ho_c {g : Nat → Int32} {k i0 i1 : Nat} {w u : Int32} (h : Tr (fun j => g (149 + j))) (hk : k < 60) (h0 : i0 = 149 + 4 * k) (h1 : i1 = 149 + 4 * k + 1) (e0 : g i0 = w) (e1 : g i1 = u) (hw : w = 73) : 0 ≤ u.toInt ∧ u.toInt ≤ 5 := by
  subst h0 h1
  have q := (h k hk).2.2
  have e2 : g (149 + (4 * k)) = w := e0
  have e3 : g (149 + (4 * k + 1)) = u := e1
  dsimp only at q
  rw [e2, e3] at q
  exact q hw
