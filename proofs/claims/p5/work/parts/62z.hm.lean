/-! the reference: what table, image and restore do to the heads of now and kept -/
def mtlB : Nat → Int32 → MN_ → Option (Nat → Int32)
  | 0, _, s => some s.2.rd
  | k + 1, i, s => if s.1.kind = 0 then some s.2.rd else
      let q := mReadLine s.1 s.2
      if q.1 = 0 then none
      else
        let q2 := mReadEnd q.2.1 q.2.2
        if q2.1 = 0 then none else mtlB k (i + 1) q2.2
theorem mtlB_eq {k : Nat} {i : Int32} {s : MN_} : mtlB (k + 1) i s = if s.1.kind = 0 then some s.2.rd else
      if (mReadLine s.1 s.2).1 = 0 then none
      else if (mReadEnd (mReadLine s.1 s.2).2.1 (mReadLine s.1 s.2).2.2).1 = 0 then none else mtlB k (i + 1) (mReadEnd (mReadLine s.1 s.2).2.1 (mReadLine s.1 s.2).2.2).2 := rfl
def mTableB (m : MT_) (n : NR_) : Option (Nat → Int32) := mtlB 941 0 (mTbStart m n)
/-- now's head is what has been read -/
def Nt_ (R : Nat → Nat → Option Nat) (x : Nat) (I : Nat → Nat → Int32) (o : Option (Nat → Int32)) : Prop := ∃ rd, o = some rd ∧ ∀ a, R x 14 = some a → ∀ j, j < 72 → I a j = rd j
/-- both rows are as they were -/
def Rw_ (R : Nat → Nat → Option Nat) (x : Nat) (I I2 : Nat → Nat → Int32) : Prop := ∀ q, (R x 14 = some q ∨ R x 16 = some q) → ∀ j, I2 q j = I q j
/-- the place n of kept is now -/
def Kp_ (R : Nat → Nat → Option Nat) (x : Nat) (I I2 : Nat → Nat → Int32) (n : Nat) : Prop := ∀ a b, R x 14 = some a → R x 16 = some b → (∀ j, j < 389 → I2 b (389 * n + j) = I a j) ∧ ∀ j, (j < 389 * n ∨ 389 * n + 389 ≤ j) → I2 b j = I b j
/-- now's head is that of the place n of kept -/
def Kr_ (R : Nat → Nat → Option Nat) (x : Nat) (I I2 : Nat → Nat → Int32) (n : Nat) : Prop := ∀ a b, R x 14 = some a → R x 16 = some b → ∀ j, j < 72 → I2 a j = I b (389 * n + j)
section HM
variable {L : List Nat} {κ ln : Nat → Nat} {R : Nat → Nat → Option Nat} {ow : Nat → Nat × Nat} {I I1 I2 : Nat → Nat → Int32} {x a b c r k n : Nat} {v : Int32} {o : Option (Nat → Int32)}
theorem hm_rows (W9 : ∀ a ∈ L, Shp L κ ln R ow a) (hx : x ∈ L) (hk : κ x = 12) : (∀ q, R x 14 = some q → ro_ κ ow q = 834) ∧ ∀ q, R x 16 = some q → ro_ κ ow q = 836 := by
  obtain ⟨a, h1, h2, h3, -, h5⟩ := shp_a (W9 x hx) hk 14 14 389 rfl (by decide)
  obtain ⟨b, g1, g2, g3, -, g5⟩ := shp_a (W9 x hx) hk 16 14 778 rfl (by decide)
  refine ⟨fun q hq => ?_, fun q hq => ?_⟩
  · rw [hq] at h1; cases h1; exact ro_a h3 (by decide) h5 hk rfl
  · rw [hq] at g1; cases g1; exact ro_a g3 (by decide) g5 hk rfl
theorem nt_hd (h : Nt_ R x I1 o) (h2 : Hd_ R x I1 I2) : Nt_ R x I2 o := by
  obtain ⟨rd, h1, h3⟩ := h
  exact ⟨rd, h1, fun a ha j hj => (h2 a ha j hj).trans (h3 a ha j hj)⟩
theorem nt_new {rd : Nat → Int32} (ho : o = some rd) (ha : R x 14 = some a) (hr : ∀ j, I1 b j = rd j) (e : I2 = cpn_ I1 b a 0 0 72) : Nt_ R x I2 o := ⟨rd, ho, fun q hq j hj => by
  rw [ha] at hq; cases hq
  rw [e]
  have := cpn_i (I := I1) (b := b) (a := a) (o2 := 0) (o1 := 0) (k := 72) (i := j) hj
  rw [Nat.zero_add] at this
  rw [this]; exact hr j⟩
theorem rw_rf : Rw_ R x I I := fun _ _ _ => rfl
theorem rw_u (W9 : ∀ a ∈ L, Shp L κ ln R ow a) (hx : x ∈ L) (hk : κ x = 12) (h : Rw_ R x I I1) (e : I2 = u2_ I1 c k v) (hc : ro_ κ ow c = r) (hr : r ≠ 834 ∧ r ≠ 836) : Rw_ R x I I2 := fun q hq j => by
  obtain ⟨m1, m2⟩ := hm_rows W9 hx hk
  have n1 : q ≠ c := fun z => by
    subst z
    rcases hq with hq | hq
    · rw [m1 q hq] at hc; exact hr.1 hc.symm
    · rw [m2 q hq] at hc; exact hr.2 hc.symm
  rw [e, u2_b n1]; exact h q hq j
theorem rw_fq (W9 : ∀ a ∈ L, Shp L κ ln R ow a) (hx : x ∈ L) (hk : κ x = 12) {T : List Nat} (h : Rw_ R x I I1) (hF : Fq L κ ow T I1 I2) (hT : 83400 ∉ T ∧ 83600 ∉ T) : Rw_ R x I I2 := fun q hq j => by
  obtain ⟨a, h1, h2, h3, -, h5⟩ := shp_a (W9 x hx) hk 14 14 389 rfl (by decide)
  obtain ⟨b, g1, g2, g3, -, g5⟩ := shp_a (W9 x hx) hk 16 14 778 rfl (by decide)
  refine Eq.trans ?_ (h q hq j)
  rcases hq with hq | hq
  · rw [hq] at h1; cases h1
    exact hF q h2 j (by rw [ro_a h3 (by decide) h5 hk rfl, tg_a (by decide)]; exact hT.1)
  · rw [hq] at g1; cases g1
    exact hF q g2 j (by rw [ro_a g3 (by decide) g5 hk rfl, tg_a (by decide)]; exact hT.2)
theorem kp_new (W9 : ∀ a ∈ L, Shp L κ ln R ow a) (hx : x ∈ L) (hk : κ x = 12) (h : Rw_ R x I I1) (ha : R x 14 = some a) (hb : R x 16 = some b) (e : I2 = cpn_ I1 a b 0 (389 * n) 389) : Kp_ R x I I2 n := fun a' b' ha' hb' => by
  rw [ha] at ha'; cases ha'
  rw [hb] at hb'; cases hb'
  refine ⟨fun j hj => ?_, fun j hj => ?_⟩
  · rw [e, cpn_i hj, Nat.zero_add]; exact h a (Or.inl ha) j
  · rw [e, cpn_o hj]; exact h b (Or.inr hb) j
theorem kp_u2 (W9 : ∀ a ∈ L, Shp L κ ln R ow a) (hx : x ∈ L) (hk : κ x = 12) (h : Kp_ R x I I1 n) (e : I2 = u2_ I1 c k v) (hc : ro_ κ ow c = r) (hr : r ≠ 836) : Kp_ R x I I2 n := fun a b ha hb => by
  obtain ⟨p1, p2⟩ := h a b ha hb
  have n1 : b ≠ c := fun z => by
    subst z
    rw [(hm_rows W9 hx hk).2 b hb] at hc; exact hr hc.symm
  exact ⟨fun j hj => by rw [e, u2_b n1]; exact p1 j hj, fun j hj => by rw [e, u2_b n1]; exact p2 j hj⟩
theorem kr_new (W9 : ∀ a ∈ L, Shp L κ ln R ow a) (hx : x ∈ L) (hk : κ x = 12) (h : Rw_ R x I I1) (ha : R x 14 = some a) (hb : R x 16 = some b) (e : I2 = cpn_ I1 b a (389 * n) 0 389) : Kr_ R x I I2 n := fun a' b' ha' hb' j hj => by
  rw [ha] at ha'; cases ha'
  rw [hb] at hb'; cases hb'
  have := cpn_i (I := I1) (b := b) (a := a) (o2 := 389 * n) (o1 := 0) (k := 389) (i := j) (by omega)
  rw [Nat.zero_add] at this
  rw [e, this]; exact h b (Or.inr hb) _
theorem kr_hd (h : Kr_ R x I I1 n) (h2 : Hd_ R x I1 I2) : Kr_ R x I I2 n := fun a b ha hb j hj => (h2 a ha j hj).trans (h a b ha hb j hj)
end HM
theorem hd_so {R : Nat → Nat → Option Nat} {I I1 I2 I3 : Nat → Nat → Int32} {x a : Nat} (ha : R x 14 = some a) (e1 : I1 = fil_ I a 72 317) (e2 : I2 = cpn_ I1 a a 18 78 6) (e3 : I3 = cpn_ I2 a a 30 105 42) : Hd_ R x I I3 := fun q hq j hj => by
  rw [ha] at hq; cases hq
  rw [e3, cpn_o (Or.inl (by omega)), e2, cpn_o (Or.inl (by omega)), e1, fil_o (Or.inl hj)]
