/-! ranges -/
def Rg (a b : Int) (x : Int32) : Prop := a ≤ x.toInt ∧ x.toInt ≤ b
theorem rg_all (x : Int32) : Rg (-2147483648) 2147483647 x := by
  have h1 := Int32.le_toInt x
  have h2 := Int32.toInt_lt x
  constructor <;> omega
theorem rg_w {a b a2 b2 : Int} {x : Int32} (h : Rg a b x) (h1 : a2 ≤ a) (h2 : b ≤ b2) : Rg a2 b2 x := ⟨Int.le_trans h1 h.1, Int.le_trans h.2 h2⟩
theorem rg_no {a b : Int} {x : Int32} {α : Prop} (h : Rg a b x) (h1 : b < a) : α := absurd (Int.le_trans h.1 h.2) (by omega)
theorem rg_of {a b : Int} {x : Int32} (n : Int) (h : x.toInt = n) (h1 : a ≤ n) (h2 : n ≤ b) : Rg a b x := by unfold Rg; omega
theorem i_add {x y : Int32} (h1 : -2147483648 ≤ x.toInt + y.toInt) (h2 : x.toInt + y.toInt ≤ 2147483647) : (x + y).toInt = x.toInt + y.toInt := by
  rw [Int32.toInt_add]; exact Int.bmod_eq_of_le (by simpa using h1) (by omega)
theorem i_sub {x y : Int32} (h1 : -2147483648 ≤ x.toInt - y.toInt) (h2 : x.toInt - y.toInt ≤ 2147483647) : (x - y).toInt = x.toInt - y.toInt := by
  rw [Int32.toInt_sub]; exact Int.bmod_eq_of_le (by simpa using h1) (by omega)
theorem i_mul {x y : Int32} (h1 : -2147483648 ≤ x.toInt * y.toInt) (h2 : x.toInt * y.toInt ≤ 2147483647) : (x * y).toInt = x.toInt * y.toInt := by
  rw [Int32.toInt_mul]; exact Int.bmod_eq_of_le (by simpa using h1) (by omega)
theorem ex_add {a b c d : Int} {x y : Int32} (lo hi : Int) (hx : Rg a b x) (hy : Rg c d y) (h1 : lo = a + c) (h2 : hi = b + d) (h3 : -2147483648 ≤ lo) (h4 : hi ≤ 2147483647) : ∃ z, x + y = z ∧ Rg lo hi z ∧ z.toInt = x.toInt + y.toInt := by
  obtain ⟨p1, p2⟩ := hx; obtain ⟨q1, q2⟩ := hy
  have e := i_add (x := x) (y := y) (by omega) (by omega)
  exact ⟨_, rfl, ⟨by omega, by omega⟩, e⟩
theorem ex_sub {a b c d : Int} {x y : Int32} (lo hi : Int) (hx : Rg a b x) (hy : Rg c d y) (h1 : lo = a - d) (h2 : hi = b - c) (h3 : -2147483648 ≤ lo) (h4 : hi ≤ 2147483647) : ∃ z, x - y = z ∧ Rg lo hi z ∧ z.toInt = x.toInt - y.toInt := by
  obtain ⟨p1, p2⟩ := hx; obtain ⟨q1, q2⟩ := hy
  have e := i_sub (x := x) (y := y) (by omega) (by omega)
  exact ⟨_, rfl, ⟨by omega, by omega⟩, e⟩
/-- times a number -/
theorem ex_mulk {a b k : Int} {x y : Int32} (lo hi : Int) (hx : Rg a b x) (hy : Rg k k y) (hk : 0 ≤ k) (h1 : lo = a * k) (h2 : hi = b * k) (h3 : -2147483648 ≤ lo) (h4 : hi ≤ 2147483647) : ∃ z, x * y = z ∧ Rg lo hi z := by
  obtain ⟨p1, p2⟩ := hx; obtain ⟨q1, q2⟩ := hy
  have e0 : y.toInt = k := by omega
  have m1 : a * k ≤ x.toInt * k := Int.mul_le_mul_of_nonneg_right p1 hk
  have m2 : x.toInt * k ≤ b * k := Int.mul_le_mul_of_nonneg_right p2 hk
  have e := i_mul (x := x) (y := y) (by rw [e0]; omega) (by rw [e0]; omega)
  rw [e0] at e
  exact ⟨_, rfl, ⟨by omega, by omega⟩⟩
theorem ex_mulK {a b k : Int} {x y : Int32} (lo hi : Int) (hy : Rg k k y) (hx : Rg a b x) (hk : 0 ≤ k) (h1 : lo = a * k) (h2 : hi = b * k) (h3 : -2147483648 ≤ lo) (h4 : hi ≤ 2147483647) : ∃ z, y * x = z ∧ Rg lo hi z := by
  rw [Int32.mul_comm]; exact ex_mulk lo hi hx hy hk h1 h2 h3 h4
theorem ex_any {z0 : Int32} : ∃ z, z0 = z ∧ Rg (-2147483648) 2147483647 z := ⟨_, rfl, rg_all _⟩
theorem nn_bv {x : Int32} (h : 0 ≤ x.toInt) : (x.toInt : Int) = (x.toBitVec.toNat : Int) := by
  have h2 : x.toInt = x.toBitVec.toInt := rfl
  rw [h2] at h ⊢
  rw [BitVec.toInt_eq_toNat_cond] at h ⊢
  split <;> rename_i h3
  · rfl
  · rw [if_neg h3] at h
    have := x.toBitVec.isLt
    omega
theorem bv_nn {x : Int32} (h : x.toBitVec.toNat < 2147483648) : (x.toInt : Int) = (x.toBitVec.toNat : Int) := by
  have h2 : x.toInt = x.toBitVec.toInt := rfl
  rw [h2, BitVec.toInt_eq_toNat_cond, if_pos (by omega)]
theorem ex_andl {b : Int} {x y : Int32} (hx : Rg 0 b x) : ∃ z, x &&& y = z ∧ Rg 0 b z := by
  have e1 := nn_bv hx.1
  have e2 : (x &&& y).toBitVec.toNat ≤ x.toBitVec.toNat := by
    rw [show (x &&& y).toBitVec = x.toBitVec &&& y.toBitVec from rfl, BitVec.toNat_and]; exact Nat.and_le_left
  have e3 := x.toInt_lt
  have e4 := bv_nn (x := x &&& y) (by omega)
  exact ⟨_, rfl, ⟨by omega, by have := hx.2; omega⟩⟩
theorem ex_andr {b : Int} {x y : Int32} (hy : Rg 0 b y) : ∃ z, x &&& y = z ∧ Rg 0 b z := by
  rw [Int32.and_comm]; exact ex_andl hy
theorem ex_or {b c : Int} (k : Nat) {x y : Int32} (hx : Rg 0 b x) (hy : Rg 0 c y) (hk : k ≤ 30) (h1 : b < 2 ^ k) (h2 : c < 2 ^ k) (hi : Int) (h3 : hi = 2 ^ k - 1) : ∃ z, x ||| y = z ∧ Rg 0 hi z := by
  have e1 := nn_bv hx.1
  have e2 := nn_bv hy.1
  have q1 : x.toBitVec.toNat < 2 ^ k := by have := hx.2; have : (x.toBitVec.toNat : Int) < ((2 ^ k : Nat) : Int) := by push_cast; omega
                                           exact Int.ofNat_lt.mp this
  have q2 : y.toBitVec.toNat < 2 ^ k := by have := hy.2; have : (y.toBitVec.toNat : Int) < ((2 ^ k : Nat) : Int) := by push_cast; omega
                                           exact Int.ofNat_lt.mp this
  have q3 : (x ||| y).toBitVec.toNat < 2 ^ k := by
    rw [show (x ||| y).toBitVec = x.toBitVec ||| y.toBitVec from rfl, BitVec.toNat_or]; exact Nat.or_lt_two_pow q1 q2
  have q4 : (2:Nat) ^ k ≤ 2 ^ 30 := Nat.pow_le_pow_right (by decide) hk
  have e4 := bv_nn (x := x ||| y) (by have : (2:Nat) ^ 30 = 1073741824 := by decide
                                      omega)
  have q5 : ((x ||| y).toBitVec.toNat : Int) < ((2 ^ k : Nat) : Int) := Int.ofNat_lt.mpr q3
  push_cast at q5
  exact ⟨_, rfl, ⟨by omega, by omega⟩⟩
theorem ex_xor {b c : Int} (k : Nat) {x y : Int32} (hx : Rg 0 b x) (hy : Rg 0 c y) (hk : k ≤ 30) (h1 : b < 2 ^ k) (h2 : c < 2 ^ k) (hi : Int) (h3 : hi = 2 ^ k - 1) : ∃ z, x ^^^ y = z ∧ Rg 0 hi z := by
  have e1 := nn_bv hx.1
  have e2 := nn_bv hy.1
  have q1 : x.toBitVec.toNat < 2 ^ k := by have := hx.2; have : (x.toBitVec.toNat : Int) < ((2 ^ k : Nat) : Int) := by push_cast; omega
                                           exact Int.ofNat_lt.mp this
  have q2 : y.toBitVec.toNat < 2 ^ k := by have := hy.2; have : (y.toBitVec.toNat : Int) < ((2 ^ k : Nat) : Int) := by push_cast; omega
                                           exact Int.ofNat_lt.mp this
  have q3 : (x ^^^ y).toBitVec.toNat < 2 ^ k := by
    rw [show (x ^^^ y).toBitVec = x.toBitVec ^^^ y.toBitVec from rfl, BitVec.toNat_xor]; exact Nat.xor_lt_two_pow q1 q2
  have q4 : (2:Nat) ^ k ≤ 2 ^ 30 := Nat.pow_le_pow_right (by decide) hk
  have e4 := bv_nn (x := x ^^^ y) (by have : (2:Nat) ^ 30 = 1073741824 := by decide
                                      omega)
  have q5 : ((x ^^^ y).toBitVec.toNat : Int) < ((2 ^ k : Nat) : Int) := Int.ofNat_lt.mpr q3
  push_cast at q5
  exact ⟨_, rfl, ⟨by omega, by omega⟩⟩
theorem rg_case {m : Nat} {y : Int32} (h : Rg 0 m y) : ∃ n : Nat, n ≤ m ∧ y = Int32.ofNat n := by
  refine ⟨y.toInt.toNat, by have := h.2; have := h.1; omega, ?_⟩
  apply Int32.toInt_inj.mp
  have h1 := h.1
  have h2 := y.toInt_lt
  rw [Int32.toInt_ofNat_of_lt (by omega)]
  omega
theorem rg_ic {m : Int} {y : Int32} (h : Rg 0 m y) : Rg 0 (m.toNat : Int) y := ⟨h.1, by have := h.2; have := h.1; omega⟩
theorem ex_shl {x y : Int32} (m : Nat) (hi : Int) (hx : x = 1) (hy : Rg 0 m y) (hm : ∀ n, n ≤ m → (1 : Int) ≤ ((1 : Int32) <<< (Int32.ofNat n &&& 31)).toInt ∧ ((1 : Int32) <<< (Int32.ofNat n &&& 31)).toInt ≤ hi) : ∃ z, x <<< (y &&& 31) = z ∧ Rg 1 hi z := by
  obtain ⟨n, h1, h2⟩ := rg_case hy
  subst h2; subst hx
  exact ⟨_, rfl, hm n h1⟩
theorem ex_shr {b : Int} {x y : Int32} (hx : Rg 0 b x) : ∃ z, x >>> (y &&& 31) = z ∧ Rg 0 b z := by
  have e1 := nn_bv hx.1
  refine ⟨_, rfl, ?_⟩
  have e0 : (x >>> (y &&& 31)).toBitVec = x.toBitVec.sshiftRight' ((y &&& 31).toBitVec.smod 32) := rfl
  have e2 : (x >>> (y &&& 31)).toInt = x.toBitVec.toInt >>> ((y &&& 31).toBitVec.smod 32).toNat := by
    show (x >>> (y &&& 31)).toBitVec.toInt = _
    rw [e0, BitVec.sshiftRight', BitVec.toInt_sshiftRight]
  have h0 : x.toInt = x.toBitVec.toInt := rfl
  rw [← h0] at e2
  rw [Int.shiftRight_eq_div_pow] at e2
  have h1 := hx.1
  have h2 := hx.2
  have p : (0:Int) < ((2 ^ ((y &&& 31).toBitVec.smod 32).toNat : Nat) : Int) := by exact Int.ofNat_lt.mpr (Nat.two_pow_pos _)
  have q1 : 0 ≤ x.toInt / ((2 ^ ((y &&& 31).toBitVec.smod 32).toNat : Nat) : Int) := Int.ediv_nonneg h1 (by omega)
  have q2 : x.toInt / ((2 ^ ((y &&& 31).toBitVec.smod 32).toNat : Nat) : Int) ≤ x.toInt := Int.ediv_le_self _ h1
  exact ⟨by omega, by omega⟩
theorem i_div {x y : Int32} (h : 0 ≤ x.toInt) (h2 : 0 < y.toInt) : (x / y).toInt = x.toInt / y.toInt := by
  rw [Int32.toInt_div, Int.tdiv_eq_ediv_of_nonneg h]
  have q1 : 0 ≤ x.toInt / y.toInt := Int.ediv_nonneg h (by omega)
  have q2 : x.toInt / y.toInt ≤ x.toInt := Int.ediv_le_self _ h
  have := x.toInt_lt
  exact Int.bmod_eq_of_le (by omega) (by omega)
theorem ex_div {b d : Int} {x y : Int32} (hx : Rg 0 b x) (hy : Rg 1 d y) : ∃ z, x / y = z ∧ Rg 0 b z := by
  have e := i_div (x := x) (y := y) hx.1 (by have := hy.1; omega)
  have q1 : 0 ≤ x.toInt / y.toInt := Int.ediv_nonneg hx.1 (by have := hy.1; omega)
  have q2 : x.toInt / y.toInt ≤ x.toInt := Int.ediv_le_self _ hx.1
  exact ⟨_, rfl, ⟨by omega, by have := hx.2; omega⟩⟩
theorem i_rem {x y : Int32} (h : 0 ≤ x.toInt) (h2 : 0 < y.toInt) : (x - x / y * y).toInt = x.toInt % y.toInt := by
  have e := i_div h h2
  have q1 : 0 ≤ x.toInt / y.toInt := Int.ediv_nonneg h (by omega)
  have q3 := Int.emod_add_mul_ediv x.toInt y.toInt
  have q4 := Int.emod_nonneg x.toInt (show y.toInt ≠ 0 by omega)
  have := x.toInt_lt
  have q5 : x.toInt / y.toInt * y.toInt = y.toInt * (x.toInt / y.toInt) := Int.mul_comm _ _
  have q6 : 0 ≤ y.toInt * (x.toInt / y.toInt) := Int.mul_nonneg (by omega) q1
  have e1 := i_mul (x := x / y) (y := y) (by rw [e]; omega) (by rw [e]; omega)
  rw [e] at e1
  have e2 := i_sub (x := x) (y := x / y * y) (by omega) (by omega)
  omega
theorem ex_rem {b d : Int} {x y : Int32} (hi : Int) (hx : Rg 0 b x) (hy : Rg 1 d y) (h : hi = d - 1) : ∃ z, x - x / y * y = z ∧ Rg 0 hi z := by
  have e := i_rem (x := x) (y := y) hx.1 (by have := hy.1; omega)
  have q1 := Int.emod_nonneg x.toInt (show y.toInt ≠ 0 by have := hy.1; omega)
  have q2 := Int.emod_lt_of_pos x.toInt (show 0 < y.toInt by have := hy.1; omega)
  exact ⟨_, rfl, ⟨by omega, by have := hy.2; omega⟩⟩
theorem rg_ne0 {a b : Int} {x : Int32} (h : Rg a b x) (h1 : 0 < a) : ¬ x = 0 := fun e => by
  subst e; have := h.1; have e2 : (0 : Int32).toInt = 0 := by decide
  omega
theorem ex_b2 {x : Int32} : ∃ z, x.toInt8.toInt32 = z ∧ Rg (-128) 127 z := ⟨_, rfl, by
  have h1 := x.toInt8.le_toInt; have h2 := x.toInt8.toInt_lt
  have e : x.toInt8.toInt32.toInt = x.toInt8.toInt := Int8.toInt_toInt32 _
  constructor <;> omega⟩
theorem ex_min {a b c d : Int} {x y : Int32} (lo hi : Int) (hx : Rg a b x) (hy : Rg c d y) (h1 : lo ≤ a) (h2 : lo ≤ c) (h3 : b ≤ hi ∨ d ≤ hi) : ∃ z, (if y < x then y else x) = z ∧ Rg lo hi z := by
  obtain ⟨p1, p2⟩ := hx; obtain ⟨q1, q2⟩ := hy
  refine ⟨_, rfl, ?_⟩
  by_cases h : y < x
  · rw [if_pos h]; have := Int32.lt_iff_toInt_lt.mp h; unfold Rg; omega
  · rw [if_neg h]; rw [Int32.lt_iff_toInt_lt] at h; unfold Rg; omega
theorem ex_max {a b c d : Int} {x y : Int32} (lo hi : Int) (hx : Rg a b x) (hy : Rg c d y) (h1 : b ≤ hi) (h2 : d ≤ hi) (h3 : lo ≤ a ∨ lo ≤ c) : ∃ z, (if x < y then y else x) = z ∧ Rg lo hi z := by
  obtain ⟨p1, p2⟩ := hx; obtain ⟨q1, q2⟩ := hy
  refine ⟨_, rfl, ?_⟩
  by_cases h : x < y
  · rw [if_pos h]; have := Int32.lt_iff_toInt_lt.mp h; unfold Rg; omega
  · rw [if_neg h]; rw [Int32.lt_iff_toInt_lt] at h; unfold Rg; omega
/-! what a test tells -/
theorem lt_l {a b c d hi : Int} {x y : Int32} (h : x < y) (hx : Rg a b x) (hy : Rg c d y) (e : hi = d - 1) : Rg a hi x := by have := Int32.lt_iff_toInt_lt.mp h; unfold Rg at *; omega
theorem lt_r {a b c d lo : Int} {x y : Int32} (h : x < y) (hx : Rg a b x) (hy : Rg c d y) (e : lo = a + 1) : Rg lo d y := by have := Int32.lt_iff_toInt_lt.mp h; unfold Rg at *; omega
theorem le_l {a b c d : Int} {x y : Int32} (h : x ≤ y) (hx : Rg a b x) (hy : Rg c d y) : Rg a d x := by have := Int32.le_iff_toInt_le.mp h; unfold Rg at *; omega
theorem le_r {a b c d : Int} {x y : Int32} (h : x ≤ y) (hx : Rg a b x) (hy : Rg c d y) : Rg a d y := by have := Int32.le_iff_toInt_le.mp h; unfold Rg at *; omega
theorem nlt {x y : Int32} (h : ¬ x < y) : y ≤ x := by rw [Int32.le_iff_toInt_le]; rw [Int32.lt_iff_toInt_lt] at h; omega
theorem nle {x y : Int32} (h : ¬ x ≤ y) : y < x := by rw [Int32.lt_iff_toInt_lt]; rw [Int32.le_iff_toInt_le] at h; omega
theorem eq_rg {a b : Int} {x y : Int32} (h : x = y) (hy : Rg a b y) : Rg a b x := h ▸ hy
theorem ne_lo {a b k lo : Int} {x y : Int32} (h : ¬ x = y) (hx : Rg a b x) (hy : Rg k k y) (e : k = a) (e2 : lo = a + 1) : Rg lo b x := by
  have : x.toInt ≠ y.toInt := fun q => h (Int32.toInt_inj.mp q)
  unfold Rg at *; omega
theorem ne_hi {a b k hi : Int} {x y : Int32} (h : ¬ x = y) (hx : Rg a b x) (hy : Rg k k y) (e : k = b) (e2 : hi = b - 1) : Rg a hi x := by
  have : x.toInt ≠ y.toInt := fun q => h (Int32.toInt_inj.mp q)
  unfold Rg at *; omega
theorem eq_no {a b c d : Int} {x y : Int32} {α : Prop} (h : x = y) (hx : Rg a b x) (hy : Rg c d y) (e : b < c ∨ d < a) : α := by subst h; unfold Rg at *; omega
theorem ne_no {k : Int} {x y : Int32} {α : Prop} (h : ¬ x = y) (hx : Rg k k x) (hy : Rg k k y) : α := absurd (Int32.toInt_inj.mp (by unfold Rg at *; omega)) h
theorem rg_bool {x : Int32} (h : Rg 0 1 x) : x = 0 ∨ x = 1 := by
  have h1 := h.1; have h2 := h.2
  have : x.toInt = 0 ∨ x.toInt = 1 := by omega
  rcases this with e | e
  · exact Or.inl (Int32.toInt_inj.mp (by rw [e]; decide))
  · exact Or.inr (Int32.toInt_inj.mp (by rw [e]; decide))
theorem nar_z {x : Int32} (h : Rg 0 1 x) : narrow .boolean (.int x) = .int x := by rcases rg_bool h with rfl | rfl <;> rfl
/-! places in rows -/
theorem ix_0 {a b : Int} {i : Int32} (h : Rg a b i) (h1 : 0 ≤ a) : ¬ i < 0 := fun q => by
  have q2 := Int32.lt_iff_toInt_lt.mp q; have e : (0 : Int32).toInt = 0 := by decide
  have := h.1; omega
theorem ix_n {a b : Int} {i : Int32} (h : Rg a b i) (h1 : 0 ≤ a) : (i.toNatClampNeg : Int) = i.toInt := by
  have e : i.toNatClampNeg = i.toInt.toNat := rfl
  have := h.1; omega
theorem ix_lt {a b : Int} {i : Int32} {n N : Nat} (h : Rg a b i) (h1 : 0 ≤ a) (hn : n = N) (h2 : b < N) : i.toNatClampNeg < n := by
  have e := ix_n h h1; have := h.2; omega
theorem ix_k {a b : Int} {i : Int32} (h : Rg a b i) (h1 : 0 ≤ a) {lo hi : Nat} (h2 : (lo : Int) ≤ a) (h3 : b ≤ hi) : lo ≤ i.toNatClampNeg ∧ i.toNatClampNeg ≤ hi := by
  have e := ix_n h h1; have := h.2; have := h.1; omega
/-! measures -/
theorem ms_0 {a b : Int} {x : Int32} {α : Prop} (h : Rg a b x) (h1 : b < x.toInt + ((0 : Nat) : Int)) : α := absurd h.2 (by omega)
theorem ms_1 {b : Int} {n : Nat} {x z : Int32} {k : Int} (h : b < x.toInt + ((n + 1 : Nat) : Int)) (e : z.toInt = x.toInt + k) (hk : 1 ≤ k) : b < z.toInt + (n : Int) := by omega
theorem ms_s {a b : Int} {x : Int32} (N : Nat) (h : Rg a b x) (h1 : b - a < N) : b < x.toInt + (N : Int) := by have := h.1; omega
theorem md_0 {a b : Int} {x : Int32} {α : Prop} (h : Rg a b x) (h1 : x.toInt - a < ((0 : Nat) : Int)) : α := absurd h.1 (by omega)
theorem md_1 {a : Int} {n : Nat} {x z : Int32} {k : Int} (h : x.toInt - a < ((n + 1 : Nat) : Int)) (e : z.toInt = x.toInt + k) (hk : k ≤ -1) : z.toInt - a < (n : Int) := by omega
theorem md_s {a b : Int} {x : Int32} (N : Nat) (h : Rg a b x) (h1 : b - a < N) : x.toInt - a < (N : Int) := by have := h.2; omega
theorem ti_k {x y z : Int32} {k : Int} (h : z.toInt = x.toInt + y.toInt) (hy : Rg k k y) : z.toInt = x.toInt + k := by unfold Rg at hy; omega
theorem ti_s {x y z : Int32} {k k2 : Int} (h : z.toInt = x.toInt - y.toInt) (hy : Rg k k y) (e : k2 = -k) : z.toInt = x.toInt + k2 := by unfold Rg at hy; omega

