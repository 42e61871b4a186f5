theorem hd_sw {κ : Nat → Nat} {R : Nat → Nat → Option Nat} {ow : Nat → Nat × Nat} {I I1 I2 : Nat → Nat → Int32} {x a b k : Nat} (ha : R x 14 = some a) (ra : ro_ κ ow a = 834) (rb : ro_ κ ow b = 838) (h : Hd_ R x I I1) (e : I2 = swp_ I1 a b k) : Hd_ R x I I2 := fun q hq j hj => by
  have h0 := h q hq j hj
  rw [ha] at hq; cases hq
  have hab : a ≠ b := fun z => by rw [z, rb] at ra; exact absurd ra (by decide)
  rw [e]; unfold swp_; rw [if_neg (by omega), if_neg (fun z => hab z.1)]
  exact h0
