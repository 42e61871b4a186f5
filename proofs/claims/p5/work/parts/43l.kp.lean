/-! which places are kept: f0, f1 before, g0, g1 behind -/
def Tm_ (n f0 f1 g0 g1 : Int32) : Prop := (n = 0 ∧ g0 = 1 ∧ g1 = f1) ∨ (n = 1 ∧ g0 = f0 ∧ g1 = 1) ∨ (¬ n = 0 ∧ ¬ n = 1 ∧ g0 = f0 ∧ g1 = f1)
def Tq_ (n f0 f1 r : Int32) : Prop := (n = 0 ∧ ((f0 = 0 ∧ r = 0) ∨ (¬ f0 = 0 ∧ r = 1))) ∨ (n = 1 ∧ ((f1 = 0 ∧ r = 0) ∨ (¬ f1 = 0 ∧ r = 1))) ∨ (¬ n = 0 ∧ ¬ n = 1 ∧ r = 0)
theorem tm_1 {n f0 f1 g0 g1 h0 h1 : Int32} (h : Tm_ n f0 f1 g0 g1) (h2 : Tm_ n f0 f1 h0 h1) : g0 = h0 ∧ g1 = h1 := by
  rcases h with ⟨a1, a2, a3⟩ | ⟨a1, a2, a3⟩ | ⟨a1, a2, a3, a4⟩ <;> rcases h2 with ⟨b1, b2, b3⟩ | ⟨b1, b2, b3⟩ | ⟨b1, b2, b3, b4⟩
  · exact ⟨by rw [a2, b2], by rw [a3, b3]⟩
  · rw [a1] at b1; exact absurd b1 (by decide)
  · exact absurd a1 b1
  · rw [a1] at b1; exact absurd b1 (by decide)
  · exact ⟨by rw [a2, b2], by rw [a3, b3]⟩
  · exact absurd a1 b2
  · exact absurd b1 a1
  · exact absurd b1 a2
  · exact ⟨by rw [a3, b3], by rw [a4, b4]⟩
theorem tq_1 {n f0 f1 r r2 : Int32} (h : Tq_ n f0 f1 r) (h2 : Tq_ n f0 f1 r2) : r = r2 := by
  have two : ∀ {f r r2 : Int32}, ((f = 0 ∧ r = 0) ∨ (¬ f = 0 ∧ r = 1)) → ((f = 0 ∧ r2 = 0) ∨ (¬ f = 0 ∧ r2 = 1)) → r = r2 := fun h h2 => by
    rcases h with ⟨a1, a2⟩ | ⟨a1, a2⟩ <;> rcases h2 with ⟨b1, b2⟩ | ⟨b1, b2⟩
    · rw [a2, b2]
    · exact absurd a1 b1
    · exact absurd b1 a1
    · rw [a2, b2]
  rcases h with ⟨a1, a2⟩ | ⟨a1, a2⟩ | ⟨a1, a2, a3⟩ <;> rcases h2 with ⟨b1, b2⟩ | ⟨b1, b2⟩ | ⟨b1, b2, b3⟩
  · exact two a2 b2
  · rw [a1] at b1; exact absurd b1 (by decide)
  · exact absurd a1 b1
  · rw [a1] at b1; exact absurd b1 (by decide)
  · exact two a2 b2
  · exact absurd a1 b2
  · exact absurd b1 a1
  · exact absurd b1 a2
  · rw [a3, b3]
section EFK
variable {L : List Nat} {κ : Nat → Nat} {R : Nat → Nat → Option Nat} {I I2 : Nat → Nat → Int32} {A b b0 b1 kp : Nat} {n r z : Int32}
theorem tm_c (ra : n = 0 ∨ n = 1) (hb : R A n.toNatClampNeg = some b) (h0 : R A 0 = some b0) (h1 : R A 1 = some b1) (hne : b0 ≠ b1) (hs : I2 b 3 = 1) (ho : ∀ c, c ∈ L → κ c = 3 → c ≠ b → I2 c 3 = I c 3) (l0 : b0 ∈ L) (l1 : b1 ∈ L) (k0 : κ b0 = 3) (k1 : κ b1 = 3) : Tm_ n (I b0 3) (I b1 3) (I2 b0 3) (I2 b1 3) := by
  rcases ra with e | e
  · rw [e, show (0 : Int32).toNatClampNeg = 0 from by decide, h0] at hb
    cases hb
    exact Or.inl ⟨e, hs, ho b1 l1 k1 (Ne.symm hne)⟩
  · rw [e, show (1 : Int32).toNatClampNeg = 1 from by decide, h1] at hb
    cases hb
    exact Or.inr (Or.inl ⟨e, ho b0 l0 k0 hne, hs⟩)
theorem tm_m (ra : n = 0 ∨ n = 1) (hs : I2 kp n.toNatClampNeg = 1) (ho : ∀ j, j ≠ n.toNatClampNeg → I2 kp j = I kp j) : Tm_ n (I kp 0) (I kp 1) (I2 kp 0) (I2 kp 1) := by
  rcases ra with e | e
  · rw [e, show (0 : Int32).toNatClampNeg = 0 from by decide] at hs
    exact Or.inl ⟨e, hs, ho 1 (by rw [e]; decide)⟩
  · rw [e, show (1 : Int32).toNatClampNeg = 1 from by decide] at hs
    exact Or.inr (Or.inl ⟨e, ho 0 (by rw [e]; decide), hs⟩)
theorem tq_c (ra : n = 0 ∨ n = 1) (hb : R A n.toNatClampNeg = some b) (h0 : R A 0 = some b0) (h1 : R A 1 = some b1) (hz : I b 3 = z) (hr : (z = 0 ∧ r = 0) ∨ (¬ z = 0 ∧ r = 1)) : Tq_ n (I b0 3) (I b1 3) r := by
  subst hz
  rcases ra with e | e
  · rw [e, show (0 : Int32).toNatClampNeg = 0 from by decide, h0] at hb
    cases hb
    exact Or.inl ⟨e, hr⟩
  · rw [e, show (1 : Int32).toNatClampNeg = 1 from by decide, h1] at hb
    cases hb
    exact Or.inr (Or.inl ⟨e, hr⟩)
theorem tq_m (ra : n = 0 ∨ n = 1) (hr : (I kp n.toNatClampNeg = 0 ∧ r = 0) ∨ (¬ I kp n.toNatClampNeg = 0 ∧ r = 1)) : Tq_ n (I kp 0) (I kp 1) r := by
  rcases ra with e | e
  · rw [e, show (0 : Int32).toNatClampNeg = 0 from by decide] at hr
    exact Or.inl ⟨e, hr⟩
  · rw [e, show (1 : Int32).toNatClampNeg = 1 from by decide] at hr
    exact Or.inr (Or.inl ⟨e, hr⟩)
end EFK
