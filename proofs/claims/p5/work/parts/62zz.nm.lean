/-! the reference: what table, image and restore do to names -/
def mtlN : Nat → Int32 → MN_ → Option (Nat → Int64)
  | 0, _, s => some s.2.rn
  | k + 1, i, s => if s.1.kind = 0 then some s.2.rn else
      let q := mReadLine s.1 s.2
      if q.1 = 0 then none
      else
        let q2 := mReadEnd q.2.1 q.2.2
        if q2.1 = 0 then none else mtlN k (i + 1) q2.2
theorem mtlN_eq {k : Nat} {i : Int32} {s : MN_} : mtlN (k + 1) i s = if s.1.kind = 0 then some s.2.rn else
      if (mReadLine s.1 s.2).1 = 0 then none
      else if (mReadEnd (mReadLine s.1 s.2).2.1 (mReadLine s.1 s.2).2.2).1 = 0 then none else mtlN k (i + 1) (mReadEnd (mReadLine s.1 s.2).2.1 (mReadLine s.1 s.2).2.2).2 := rfl
def mTableN (m : MT_) (n : NR_) : Option (Nat → Int64) := mtlN 941 0 (mTbStart m n)
/-- i names are what has been read -/
def Nx_ (R : Nat → Nat → Option Nat) (x : Nat) (J : Nat → Nat → Int64) (i : Nat) (o : Option (Nat → Int64)) : Prop := ∃ f, o = some f ∧ (∀ q, R x 20 = some q → ∀ j, J q j = f j) ∧ ∀ q, R x 19 = some q → ∀ j, j < i → J q j = f j
/-- names are what has been read -/
def Ny_ (R : Nat → Nat → Option Nat) (x : Nat) (J : Nat → Nat → Int64) (o : Option (Nat → Int64)) : Prop := ∃ f, o = some f ∧ ∀ q, R x 19 = some q → ∀ j, j < 13 → J q j = f j
/-- both rows of names are as they were -/
def Rj_ (R : Nat → Nat → Option Nat) (x : Nat) (J J2 : Nat → Nat → Int64) : Prop := ∀ q, (R x 19 = some q ∨ R x 21 = some q) → ∀ j, J2 q j = J q j
/-- i names of the place n of keptName are those of name -/
def Kj_ (R : Nat → Nat → Option Nat) (x : Nat) (J J2 : Nat → Nat → Int64) (n i : Nat) : Prop := ∀ a b, R x 19 = some a → R x 21 = some b → (∀ j, j < i → J2 b (13 * n + j) = J a j) ∧ (∀ j, (j < 13 * n ∨ 13 * n + i ≤ j) → J2 b j = J b j) ∧ ∀ j, J2 a j = J a j
/-- i names are those of the place n of keptName -/
def Kq_ (R : Nat → Nat → Option Nat) (x : Nat) (J J2 : Nat → Nat → Int64) (n i : Nat) : Prop := ∀ a b, R x 19 = some a → R x 21 = some b → (∀ j, j < i → J2 a j = J b (13 * n + j)) ∧ ∀ j, J2 b j = J b j
section NM
variable {L : List Nat} {κ ln : Nat → Nat} {R : Nat → Nat → Option Nat} {ow : Nat → Nat × Nat} {J J1 J2 : Nat → Nat → Int64} {x a b c r k n i p p2 : Nat} {v : Int64} {o : Option (Nat → Int64)} {T : List Nat}
theorem nm_rows (W9 : ∀ a ∈ L, Shp L κ ln R ow a) (hx : x ∈ L) (hk : κ x = 12) : (∀ q, R x 19 = some q → q ∈ L ∧ ro_ κ ow q = 839) ∧ (∀ q, R x 20 = some q → q ∈ L ∧ ro_ κ ow q = 840) ∧ ∀ q, R x 21 = some q → q ∈ L ∧ ro_ κ ow q = 841 := by
  obtain ⟨a, h1, h2, h3, -, h5⟩ := shp_a (W9 x hx) hk 19 15 13 rfl (by decide)
  obtain ⟨b, g1, g2, g3, -, g5⟩ := shp_a (W9 x hx) hk 20 15 13 rfl (by decide)
  obtain ⟨c, f1, f2, f3, -, f5⟩ := shp_a (W9 x hx) hk 21 15 26 rfl (by decide)
  refine ⟨fun q hq => ?_, fun q hq => ?_, fun q hq => ?_⟩
  · rw [hq] at h1; cases h1; exact ⟨h2, ro_a h3 (by decide) h5 hk rfl⟩
  · rw [hq] at g1; cases g1; exact ⟨g2, ro_a g3 (by decide) g5 hk rfl⟩
  · rw [hq] at f1; cases f1; exact ⟨f2, ro_a f3 (by decide) f5 hk rfl⟩
theorem nx_0 {f : Nat → Int64} (hi : i = 0) (ho : o = some f) (hb : R x 20 = some b) (h : ∀ j, J b j = f j) : Nx_ R x J i o := ⟨f, ho, fun q hq j => by rw [hb] at hq; cases hq; exact h j, fun q hq j hj => by omega⟩
theorem nx_c (h : Nx_ R x J i o) (e : k = i) : Nx_ R x J k o := by rw [e]; exact h
theorem nx_st (h : Nx_ R x J i o) (ha : R x 19 = some a) (hb : R x 20 = some b) (ne : a ≠ b) (e : J2 = u2_ J a p v) (hv : J b p2 = v) (hp : p = i) (hp2 : p2 = i) : Nx_ R x J2 (i + 1) o := by
  obtain ⟨f, h1, h2, h3⟩ := h
  refine ⟨f, h1, fun q hq j => ?_, fun q hq j hj => ?_⟩
  · rw [hb] at hq; cases hq
    rw [e, u2_b (Ne.symm ne)]; exact h2 _ hb j
  · rw [ha] at hq; cases hq
    by_cases z : j = p
    · rw [e, z, u2_s, ← hv, hp2, hp]; exact h2 _ hb i
    · rw [e, u2_j z]; exact h3 _ ha j (by omega)
theorem nn_of (h : Nx_ R x J i o) (hi : 13 ≤ i) : Ny_ R x J o := by
  obtain ⟨f, h1, h2, h3⟩ := h
  exact ⟨f, h1, fun q hq j hj => h3 q hq j (by omega)⟩
theorem nn_fq (W9 : ∀ a ∈ L, Shp L κ ln R ow a) (hx : x ∈ L) (hk : κ x = 12) (h : Ny_ R x J o) (hG : Fq L κ ow T J J2) (hT : 83900 ∉ T) : Ny_ R x J2 o := by
  obtain ⟨f, h1, h2⟩ := h
  refine ⟨f, h1, fun q hq j hj => ?_⟩
  obtain ⟨q1, q2⟩ := (nm_rows W9 hx hk).1 q hq
  exact (hG q q1 j (by rw [q2, tg_a (by decide)]; exact hT)).trans (h2 q hq j hj)
theorem rj_rf : Rj_ R x J J := fun _ _ _ => rfl
theorem rj_fq (W9 : ∀ a ∈ L, Shp L κ ln R ow a) (hx : x ∈ L) (hk : κ x = 12) (h : Rj_ R x J J1) (hG : Fq L κ ow T J1 J2) (hT : 83900 ∉ T ∧ 84100 ∉ T) : Rj_ R x J J2 := fun q hq j => by
  refine Eq.trans ?_ (h q hq j)
  rcases hq with hq | hq
  · obtain ⟨q1, q2⟩ := (nm_rows W9 hx hk).1 q hq
    exact hG q q1 j (by rw [q2, tg_a (by decide)]; exact hT.1)
  · obtain ⟨q1, q2⟩ := (nm_rows W9 hx hk).2.2 q hq
    exact hG q q1 j (by rw [q2, tg_a (by decide)]; exact hT.2)
theorem kj_0 (h : Rj_ R x J J1) (hi : i = 0) : Kj_ R x J J1 n i := fun a b ha hb => ⟨fun j hj => by omega, fun j _ => h b (Or.inr hb) j, fun j => h a (Or.inl ha) j⟩
theorem kj_c (h : Kj_ R x J J1 n i) (e : k = i) : Kj_ R x J J1 n k := by rw [e]; exact h
theorem kj_st (h : Kj_ R x J J1 n i) (ha : R x 19 = some a) (hb : R x 21 = some b) (ne : a ≠ b) (e : J2 = u2_ J1 b p v) (hv : J1 a p2 = v) (hp : p = 13 * n + i) (hp2 : p2 = i) : Kj_ R x J J2 n (i + 1) := fun a' b' ha' hb' => by
  rw [ha] at ha'; cases ha'
  rw [hb] at hb'; cases hb'
  obtain ⟨h1, h2, h3⟩ := h a b ha hb
  refine ⟨fun j hj => ?_, fun j hj => ?_, fun j => by rw [e, u2_b ne]; exact h3 j⟩
  · by_cases z : j = i
    · rw [z, e, ← hp, u2_s, ← hv, hp2]; exact h3 i
    · rw [e, u2_j (by omega)]; exact h1 j (by omega)
  · rw [e, u2_j (by omega)]; exact h2 j (by omega)
theorem kq_0 (h : Rj_ R x J J1) (hi : i = 0) : Kq_ R x J J1 n i := fun a b ha hb => ⟨fun j hj => by omega, fun j => h b (Or.inr hb) j⟩
theorem kq_c (h : Kq_ R x J J1 n i) (e : k = i) : Kq_ R x J J1 n k := by rw [e]; exact h
theorem kq_st (h : Kq_ R x J J1 n i) (ha : R x 19 = some a) (hb : R x 21 = some b) (ne : a ≠ b) (e : J2 = u2_ J1 a p v) (hv : J1 b p2 = v) (hp : p = i) (hp2 : p2 = 13 * n + i) : Kq_ R x J J2 n (i + 1) := fun a' b' ha' hb' => by
  rw [ha] at ha'; cases ha'
  rw [hb] at hb'; cases hb'
  obtain ⟨h1, h2⟩ := h a b ha hb
  refine ⟨fun j hj => ?_, fun j => by rw [e, u2_b (Ne.symm ne)]; exact h2 j⟩
  by_cases z : j = i
  · rw [z, e, hp, u2_s, ← hv, hp2]; exact h2 _
  · rw [e, u2_j (by omega)]; exact h1 j (by omega)
theorem nn13 {i : Int32} (h : Rg 13 13 i) : i.toNatClampNeg = 13 := by
  have := h.1
  have := h.2
  rw [show i.toNatClampNeg = i.toInt.toNat from rfl]; omega
end NM
