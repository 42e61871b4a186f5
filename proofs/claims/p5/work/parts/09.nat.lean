/-! small numbers against written ones -/
theorem lt_ge {n k : Nat} (h : k ≤ n) (hn : n < 2147483648) : (OfNat.ofNat k : Int32) ≤ nI n := nI_le h hn
theorem ln_ge {n k : Nat} (h : n < k) (hk : k < 2147483648) : ¬ (OfNat.ofNat k : Int32) ≤ nI n := nI_ge h hk
theorem lt_lt {n k : Nat} (h : n < k) (hk : k < 2147483648) : nI n < (OfNat.ofNat k : Int32) := nI_lt h hk
theorem ln_lt {n k : Nat} (h : k ≤ n) (hn : n < 2147483648) : ¬ nI n < (OfNat.ofNat k : Int32) := nI_nlt h hn
theorem lt_gt {n k : Nat} (h : k < n) (hn : n < 2147483648) : (OfNat.ofNat k : Int32) < nI n := nI_lt h hn
theorem ln_gt {n k : Nat} (h : n ≤ k) (hk : k < 2147483648) : ¬ (OfNat.ofNat k : Int32) < nI n := nI_nlt h hk
theorem lt_le {n k : Nat} (h : n ≤ k) (hk : k < 2147483648) : nI n ≤ (OfNat.ofNat k : Int32) := nI_le h hk
theorem ln_le {n k : Nat} (h : k < n) (hn : n < 2147483648) : ¬ nI n ≤ (OfNat.ofNat k : Int32) := nI_ge h hn
theorem lt_eq {n k : Nat} (h : n = k) (_hk : k < 2147483648) : nI n = (OfNat.ofNat k : Int32) := by subst h; rfl
theorem ln_eq {n k : Nat} (h : ¬ n = k) (hk : k < 2147483648 ∧ n < 2147483648) : ¬ nI n = (OfNat.ofNat k : Int32) := fun q => h ((nI_eq hk.2 hk.1).mp q)
theorem z_isIn {v b : Int32} (hb : b = -1) : ¬ (0 ≤ v ∧ v ≤ b) := by
  subst hb
  intro ⟨h1, h2⟩
  have h3 := Int32.le_iff_toInt_le.mp h1
  have h4 := Int32.le_iff_toInt_le.mp h2
  have h5 : (0 : Int32).toInt = 0 := rfl
  have h6 : (-1 : Int32).toInt = -1 := rfl
  omega
theorem b_in0 {x n : Int32} (h : x < 0) : 0 = (if 0 ≤ x ∧ x < n then (1 : Int32) else 0) := by rw [if_neg (fun q => Int32.lt_irrefl (Int32.lt_of_lt_of_le h q.1))]
theorem b_in1 {x n : Int32} (h : n ≤ x) : 0 = (if 0 ≤ x ∧ x < n then (1 : Int32) else 0) := by rw [if_neg (fun q => Int32.lt_irrefl (Int32.lt_of_lt_of_le q.2 h))]
theorem b_in2 {x n : Int32} (h : ¬ x < 0) (h2 : ¬ n ≤ x) : 1 = (if 0 ≤ x ∧ x < n then (1 : Int32) else 0) := by rw [if_pos ⟨Int32.not_lt.mp h, Int32.not_le.mp h2⟩]
theorem b_is0 {x a b : Int32} (h : x < a) : 0 = (if a ≤ x ∧ x ≤ b then (1 : Int32) else 0) := by rw [if_neg (fun q => Int32.lt_irrefl (Int32.lt_of_lt_of_le h q.1))]
theorem b_is1 {x a b : Int32} (h : b < x) : 0 = (if a ≤ x ∧ x ≤ b then (1 : Int32) else 0) := by rw [if_neg (fun q => Int32.lt_irrefl (Int32.lt_of_lt_of_le h q.2))]
theorem b_is2 {x a b : Int32} (h : ¬ x < a) (h2 : ¬ b < x) : 1 = (if a ≤ x ∧ x ≤ b then (1 : Int32) else 0) := by rw [if_pos ⟨Int32.not_lt.mp h, Int32.not_lt.mp h2⟩]
theorem i32_lt_le {a b : Int32} (h : ¬ a < b) : b ≤ a := Int32.not_lt.mp h
theorem i32_not_le {a b : Int32} (h : ¬ a ≤ b) : b < a := Int32.not_le.mp h
