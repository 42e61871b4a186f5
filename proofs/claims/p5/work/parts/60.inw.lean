/-! the model's memory -/
def zn_ (j : Nat) : Int × Int := if j = 0 then (0, 7) else if j = 1 then (0, 6) else if j = 3 then (0, 9) else if 4 ≤ j ∧ j ≤ 10 then (0, 20) else if 18 ≤ j ∧ j ≤ 23 then (0, 99) else if 24 ≤ j ∧ j ≤ 29 then (0, 9) else if 30 ≤ j ∧ j ≤ 71 then (0, 40) else if 78 ≤ j ∧ j ≤ 83 then (0, 379) else if 91 ≤ j ∧ j ≤ 97 then (0, 20) else if 105 ≤ j ∧ j ≤ 146 then (0, 379) else if j = 148 then (0, 59) else (-2147483648, 2147483647)
def rz_ (j : Nat) : Int × Int := if j % 4 = 0 then (0, 6) else if j % 4 = 1 then (0, 6) else if j % 4 = 2 then (-1, 5) else (0, 60)
def nO (j : Nat) : Int × Int := match j with
  | 2 => (0, 940)
  | 3 => (0, 940)
  | 4 => (0, 900)
  | 5 => (0, 940)
  | 6 => (0, 940)
  | 7 => (0, 4)
  | 23 => (0, 8)
  | 24 => (0, 1)
  | 25 => (0, 1)
  | 29 => (0, 7)
  | 37 => (0, 7)
  | 40 => (0, 64)
  | 44 => (0, 40)
  | 45 => (0, 1)
  | 47 => (0, 60)
  | 48 => (0, 20)
  | 49 => (0, 8)
  | 50 => (0, 59)
  | _ => (-2147483648, 2147483647)
def nA (r j : Nat) : Int × Int := match r with
  | 834 => zn_ j
  | 835 => zn_ j
  | 836 => zn_ (j % 389)
  | 837 => zn_ (72 + j % 75)
  | 838 => zn_ (72 + j)
  | 848 => zn_ (72 + j % 75)
  | 862 => rz_ j
  | 821 => (0, 255)
  | 842 => (0, 1)
  | 854 => (0, 1)
  | _ => (-2147483648, 2147483647)
def bN (r j : Nat) : Int × Int := if r < 13 then nO j else nA r j
def Uw (L : List Nat) (κ : Nat → Nat) (ow : Nat → Nat × Nat) (I : Nat → Nat → Int32) : Prop := ∀ a ∈ L, ∀ j, Rg (bN (ro_ κ ow a) j).1 (bN (ro_ κ ow a) j).2 (I a j)
/-- the so-part g under the head h: nobody has eaten more than he wants; of each dish at most 379 parts -/
def wd_ (g : Nat → Int32) (d : Nat) : Int := (g (6 + d)).toInt + (g (33 + d)).toInt + (g (39 + d)).toInt + (g (45 + d)).toInt + (g (51 + d)).toInt + (g (57 + d)).toInt + (g (63 + d)).toInt + (g (69 + d)).toInt
def Gs (h g : Nat → Int32) : Prop := (∀ p, p < 7 → (g (19 + p)).toInt ≤ (h (4 + p)).toInt) ∧ (∀ d, d < 6 → wd_ g d ≤ 379)
/-- the nodes of a sentence: what is joined comes first -/
def Tr (n : Nat → Int32) : Prop := ∀ k, k < 60 → ((n (4 * k) = 1 ∨ n (4 * k) = 2 ∨ n (4 * k) = 3) → 0 ≤ (n (4 * k + 1)).toInt ∧ (n (4 * k + 1)).toInt < k) ∧ ((n (4 * k) = 2 ∨ n (4 * k) = 3) → 0 ≤ (n (4 * k + 2)).toInt ∧ (n (4 * k + 2)).toInt < k) ∧ (n (4 * k) = 73 → 0 ≤ (n (4 * k + 1)).toInt ∧ (n (4 * k + 1)).toInt ≤ 5)
/-- all that is said of a model x with its rows -/
def Fc_ (I : Nat → Nat → Int32) (x a s k nd rw : Nat) : Prop := Gs (I a) (fun i => I a (72 + i)) ∧ (∀ j : Nat, (j : Int) < (I x 23).toInt → Gs (I a) (fun i => I s (75 * j + i))) ∧ (∀ q, q < 2 → Gs (fun i => I k (389 * q + i)) (fun i => I k (389 * q + 72 + i))) ∧ Tr (fun j => I a (149 + j)) ∧ (∀ q, q < 2 → Tr (fun j => I k (389 * q + 149 + j))) ∧ Tr (fun j => I nd j) ∧ (∀ j : Nat, (j : Int) < (I x 44).toInt → 0 ≤ (I rw (4 * j + 2)).toInt)
def Gm (L : List Nat) (κ : Nat → Nat) (R : Nat → Nat → Option Nat) (I : Nat → Nat → Int32) : Prop := (∀ x ∈ L, ∀ y ∈ L, κ x = 12 → κ y = 12 → x = y) ∧ ∀ x ∈ L, κ x = 12 → ∀ a s k nd rw, R x 14 = some a → R x 17 = some s → R x 16 = some k → R x 46 = some nd → R x 42 = some rw → Fc_ I x a s k nd rw
def Iw (L : List Nat) (κ : Nat → Nat) (R : Nat → Nat → Option Nat) (ow : Nat → Nat × Nat) (I : Nat → Nat → Int32) : Prop := Uw L κ ow I ∧ Gm L κ R I
def spw_ (t : Nat) : Bool := t == 83400 || t == 83700 || t == 83600 || t == 86600 || t == 86200 || t == 1223 || t == 1244
section INW
variable {L : List Nat} {κ ln : Nat → Nat} {R : Nat → Nat → Option Nat} {ow : Nat → Nat × Nat} {I I1 I2 I3 I4 I5 I0 : Nat → Nat → Int32} {a b j r x k t ci n : Nat} {v : Int32} {lo hi : Int} {T T2 : List Nat}
theorem ex_getw (hU : Uw L κ ow I) (ha : a ∈ L) (hr : ro_ κ ow a = r) (hb : bN r j = (lo, hi)) : ∃ v, I a j = v ∧ Rg lo hi v := by
  have h := hU a ha j
  rw [hr, hb] at h
  exact ⟨_, rfl, h⟩
theorem uw_put (hU : Uw L κ ow I) (e : I2 = u2_ I a j v) (hr : ro_ κ ow a = r) (hb : bN r j = (lo, hi)) (hv : Rg lo hi v) : Uw L κ ow I2 := by
  intro c hc i
  rw [e]
  unfold u2_
  split
  · rename_i h
    rw [h.1, h.2, hr, hb]; exact hv
  · exact hU c hc i
theorem z0_in (j : Nat) : (zn_ j).1 ≤ 0 ∧ 0 ≤ (zn_ j).2 := by
  unfold zn_
  repeat' split
  all_goals exact ⟨by decide, by decide⟩
theorem uw_put0 (hU : Uw L κ ow I) (e : I2 = u2_ I a j 0) (hr : ro_ κ ow a = r) (h0 : (bN r j).1 ≤ 0 ∧ 0 ≤ (bN r j).2) : Uw L κ ow I2 := by
  intro c hc i
  rw [e]
  unfold u2_
  split
  · rename_i h
    rw [h.1, h.2, hr]; exact h0
  · exact hU c hc i
theorem gm_of (W9 : ∀ a ∈ L, Shp L κ ln R ow a) (h : Gm L κ R I) (hf : ∀ c ∈ L, ∀ i, spw_ (tg_ (ro_ κ ow c) i) = true → I2 c i = I c i) : Gm L κ R I2 := by
  refine ⟨h.1, ?_⟩
  intro x hx hk a s k nd rw h1 h2 h3 h4 h5
  obtain ⟨a1, a2, -⟩ := rw_in W9 hx hk (k := 14) (t := 14) (n := 389) rfl (by decide) h1
  obtain ⟨b1, b2, -⟩ := rw_in W9 hx hk (k := 17) (t := 14) (n := 600) rfl (by decide) h2
  obtain ⟨c1, c2, -⟩ := rw_in W9 hx hk (k := 16) (t := 14) (n := 778) rfl (by decide) h3
  obtain ⟨d1, d2, -⟩ := rw_in W9 hx hk (k := 46) (t := 14) (n := 240) rfl (by decide) h4
  obtain ⟨e1, e2, -⟩ := rw_in W9 hx hk (k := 42) (t := 14) (n := 160) rfl (by decide) h5
  have rx : ro_ κ ow x = 12 := ro_o hk (by decide)
  have ea : I2 a = I a := funext fun i => hf a a1 i (by rw [a2]; rfl)
  have eb : I2 s = I s := funext fun i => hf s b1 i (by rw [b2]; rfl)
  have ec : I2 k = I k := funext fun i => hf k c1 i (by rw [c2]; rfl)
  have ed : I2 nd = I nd := funext fun i => hf nd d1 i (by rw [d2]; rfl)
  have ee : I2 rw = I rw := funext fun i => hf rw e1 i (by rw [e2]; rfl)
  unfold Fc_
  rw [ea, eb, ec, ed, ee, hf x hx 23 (by rw [rx]; rfl), hf x hx 44 (by rw [rx]; rfl)]
  exact h.2 x hx hk a s k nd rw h1 h2 h3 h4 h5
theorem iw_put (W9 : ∀ a ∈ L, Shp L κ ln R ow a) (h : Iw L κ R ow I) (e : I2 = u2_ I a j v) (hr : ro_ κ ow a = r) (hb : bN r j = (lo, hi)) (hv : Rg lo hi v) (hs : spw_ (tg_ r j) = false) : Iw L κ R ow I2 :=
  ⟨uw_put h.1 e hr hb hv, gm_of W9 h.2 (fun c hc i q => by
    rw [e]; unfold u2_; split
    · rename_i h2; rw [h2.1, h2.2, hr, hs] at q; cases q
    · rfl)⟩
theorem iw_fq (W9 : ∀ a ∈ L, Shp L κ ln R ow a) (h : Gm L κ R I) (hU : Uw L κ ow I2) (hF : Fq L κ ow T I I2) (hT : ∀ t ∈ T, spw_ t = false) : Iw L κ R ow I2 :=
  ⟨hU, gm_of W9 h (fun c hc i q => hF c hc i (fun q2 => by have := hT _ q2; rw [q] at this; cases this))⟩
theorem ix_p {lo hi lo2 hi2 j : Nat} (k : Nat) (h : lo ≤ j ∧ j ≤ hi) (h1 : lo2 ≤ k + lo) (h2 : k + hi ≤ hi2) : lo2 ≤ k + j ∧ k + j ≤ hi2 := by omega
theorem ix_m {a b : Int} {i : Int32} {r : Int} {q : Nat} (h : i.toInt % 4 = r) (h2 : Rg a b i) (h0 : 0 ≤ a ∧ r = (q : Int)) : i.toNatClampNeg % 4 = q := by
  have e := ix_n h2 h0.1; omega
theorem bn_834 : bN 834 j = zn_ j := rfl
theorem bn_835 : bN 835 j = zn_ j := rfl
theorem bn_836 : bN 836 j = zn_ (j % 389) := rfl
theorem bn_837 : bN 837 j = zn_ (72 + j % 75) := rfl
theorem bn_838 : bN 838 j = zn_ (72 + j) := rfl
theorem bn_848 : bN 848 j = zn_ (72 + j % 75) := rfl
theorem bn_862 : bN 862 j = rz_ j := rfl
theorem rz_0 (h : j % 4 = 0) : rz_ j = (0, 6) := by unfold rz_; rw [if_pos h]
theorem rz_1 (h : j % 4 = 1) : rz_ j = (0, 6) := by unfold rz_; rw [if_neg (by omega), if_pos h]
theorem rz_2 (h : j % 4 = 2) : rz_ j = (-1, 5) := by unfold rz_; rw [if_neg (by omega), if_neg (by omega), if_pos h]
theorem rz_3 (h : j % 4 = 3) : rz_ j = (0, 60) := by unfold rz_; rw [if_neg (by omega), if_neg (by omega), if_neg (by omega)]

theorem zq_0 (h : 0 ≤ j ∧ j ≤ 0) : zn_ j = (0, 7) := by unfold zn_; rw [if_pos (by omega)]
theorem zq_1 (h : 1 ≤ j ∧ j ≤ 1) : zn_ j = (0, 6) := by unfold zn_; rw [if_neg (by omega), if_pos (by omega)]
theorem zq_2 (h : 2 ≤ j ∧ j ≤ 2) : zn_ j = (-2147483648, 2147483647) := by unfold zn_; rw [if_neg (by omega), if_neg (by omega), if_neg (by omega), if_neg (by omega), if_neg (by omega), if_neg (by omega), if_neg (by omega), if_neg (by omega), if_neg (by omega), if_neg (by omega), if_neg (by omega)]
theorem zq_3 (h : 3 ≤ j ∧ j ≤ 3) : zn_ j = (0, 9) := by unfold zn_; rw [if_neg (by omega), if_neg (by omega), if_pos (by omega)]
theorem zq_4 (h : 4 ≤ j ∧ j ≤ 10) : zn_ j = (0, 20) := by unfold zn_; rw [if_neg (by omega), if_neg (by omega), if_neg (by omega), if_pos (by omega)]
theorem zq_11 (h : 11 ≤ j ∧ j ≤ 17) : zn_ j = (-2147483648, 2147483647) := by unfold zn_; rw [if_neg (by omega), if_neg (by omega), if_neg (by omega), if_neg (by omega), if_neg (by omega), if_neg (by omega), if_neg (by omega), if_neg (by omega), if_neg (by omega), if_neg (by omega), if_neg (by omega)]
theorem zq_18 (h : 18 ≤ j ∧ j ≤ 23) : zn_ j = (0, 99) := by unfold zn_; rw [if_neg (by omega), if_neg (by omega), if_neg (by omega), if_neg (by omega), if_pos (by omega)]
theorem zq_24 (h : 24 ≤ j ∧ j ≤ 29) : zn_ j = (0, 9) := by unfold zn_; rw [if_neg (by omega), if_neg (by omega), if_neg (by omega), if_neg (by omega), if_neg (by omega), if_pos (by omega)]
theorem zq_30 (h : 30 ≤ j ∧ j ≤ 71) : zn_ j = (0, 40) := by unfold zn_; rw [if_neg (by omega), if_neg (by omega), if_neg (by omega), if_neg (by omega), if_neg (by omega), if_neg (by omega), if_pos (by omega)]
theorem zq_72 (h : 72 ≤ j ∧ j ≤ 77) : zn_ j = (-2147483648, 2147483647) := by unfold zn_; rw [if_neg (by omega), if_neg (by omega), if_neg (by omega), if_neg (by omega), if_neg (by omega), if_neg (by omega), if_neg (by omega), if_neg (by omega), if_neg (by omega), if_neg (by omega), if_neg (by omega)]
theorem zq_78 (h : 78 ≤ j ∧ j ≤ 83) : zn_ j = (0, 379) := by unfold zn_; rw [if_neg (by omega), if_neg (by omega), if_neg (by omega), if_neg (by omega), if_neg (by omega), if_neg (by omega), if_neg (by omega), if_pos (by omega)]
theorem zq_84 (h : 84 ≤ j ∧ j ≤ 90) : zn_ j = (-2147483648, 2147483647) := by unfold zn_; rw [if_neg (by omega), if_neg (by omega), if_neg (by omega), if_neg (by omega), if_neg (by omega), if_neg (by omega), if_neg (by omega), if_neg (by omega), if_neg (by omega), if_neg (by omega), if_neg (by omega)]
theorem zq_91 (h : 91 ≤ j ∧ j ≤ 97) : zn_ j = (0, 20) := by unfold zn_; rw [if_neg (by omega), if_neg (by omega), if_neg (by omega), if_neg (by omega), if_neg (by omega), if_neg (by omega), if_neg (by omega), if_neg (by omega), if_pos (by omega)]
theorem zq_98 (h : 98 ≤ j ∧ j ≤ 104) : zn_ j = (-2147483648, 2147483647) := by unfold zn_; rw [if_neg (by omega), if_neg (by omega), if_neg (by omega), if_neg (by omega), if_neg (by omega), if_neg (by omega), if_neg (by omega), if_neg (by omega), if_neg (by omega), if_neg (by omega), if_neg (by omega)]
theorem zq_105 (h : 105 ≤ j ∧ j ≤ 146) : zn_ j = (0, 379) := by unfold zn_; rw [if_neg (by omega), if_neg (by omega), if_neg (by omega), if_neg (by omega), if_neg (by omega), if_neg (by omega), if_neg (by omega), if_neg (by omega), if_neg (by omega), if_pos (by omega)]
theorem zq_147 (h : 147 ≤ j ∧ j ≤ 147) : zn_ j = (-2147483648, 2147483647) := by unfold zn_; rw [if_neg (by omega), if_neg (by omega), if_neg (by omega), if_neg (by omega), if_neg (by omega), if_neg (by omega), if_neg (by omega), if_neg (by omega), if_neg (by omega), if_neg (by omega), if_neg (by omega)]
theorem zq_148 (h : 148 ≤ j ∧ j ≤ 148) : zn_ j = (0, 59) := by unfold zn_; rw [if_neg (by omega), if_neg (by omega), if_neg (by omega), if_neg (by omega), if_neg (by omega), if_neg (by omega), if_neg (by omega), if_neg (by omega), if_neg (by omega), if_neg (by omega), if_pos (by omega)]
theorem zq_149 (h : 149 ≤ j ∧ j ≤ 388) : zn_ j = (-2147483648, 2147483647) := by unfold zn_; rw [if_neg (by omega), if_neg (by omega), if_neg (by omega), if_neg (by omega), if_neg (by omega), if_neg (by omega), if_neg (by omega), if_neg (by omega), if_neg (by omega), if_neg (by omega), if_neg (by omega)]
theorem ex_mult {a b k : Int} {x y : Int32} (lo hi : Int) (hx : Rg a b x) (hy : Rg k k y) (hk : 0 ≤ k) (h1 : lo = a * k) (h2 : hi = b * k) (h3 : -2147483648 ≤ lo) (h4 : hi ≤ 2147483647) : ∃ z, x * y = z ∧ Rg lo hi z ∧ z.toInt = x.toInt * k := by
  obtain ⟨p1, p2⟩ := hx; obtain ⟨q1, q2⟩ := hy
  have e0 : y.toInt = k := by omega
  have m1 : a * k ≤ x.toInt * k := Int.mul_le_mul_of_nonneg_right p1 hk
  have m2 : x.toInt * k ≤ b * k := Int.mul_le_mul_of_nonneg_right p2 hk
  have e := i_mul (x := x) (y := y) (by rw [e0]; omega) (by rw [e0]; omega)
  rw [e0] at e
  exact ⟨_, rfl, ⟨by omega, by omega⟩, e⟩
theorem ex_mulT {a b k : Int} {x y : Int32} (lo hi : Int) (hy : Rg k k y) (hx : Rg a b x) (hk : 0 ≤ k) (h1 : lo = a * k) (h2 : hi = b * k) (h3 : -2147483648 ≤ lo) (h4 : hi ≤ 2147483647) : ∃ z, y * x = z ∧ Rg lo hi z ∧ z.toInt = x.toInt * k := by
  rw [Int32.mul_comm]; exact ex_mult lo hi hx hy hk h1 h2 h3 h4
theorem ex_suble {a b c d : Int} {x y : Int32} (hi : Int) (hx : Rg a b x) (hy : Rg c d y) (h : y ≤ x) (h2 : hi = b - c) (h4 : hi ≤ 2147483647) : ∃ z, x - y = z ∧ Rg 0 hi z ∧ z.toInt = x.toInt - y.toInt := by
  have q := Int32.le_iff_toInt_le.mp h
  obtain ⟨p1, p2⟩ := hx; obtain ⟨q1, q2⟩ := hy
  have e := i_sub (x := x) (y := y) (by omega) (by omega)
  exact ⟨_, rfl, ⟨by omega, by omega⟩, e⟩
theorem ex_sublt {a b c d : Int} {x y : Int32} (hi : Int) (hx : Rg a b x) (hy : Rg c d y) (h : y < x) (h2 : hi = b - c) (h4 : hi ≤ 2147483647) : ∃ z, x - y = z ∧ Rg 1 hi z ∧ z.toInt = x.toInt - y.toInt := by
  have q := Int32.lt_iff_toInt_lt.mp h
  obtain ⟨p1, p2⟩ := hx; obtain ⟨q1, q2⟩ := hy
  have e := i_sub (x := x) (y := y) (by omega) (by omega)
  exact ⟨_, rfl, ⟨by omega, by omega⟩, e⟩
theorem md_m {x z : Int32} (t : z.toInt = x.toInt * 4) : z.toInt % 4 = 0 := by omega
theorem md_a {x y z : Int32} {r r2 k : Int} (t : z.toInt = x.toInt + y.toInt) (h : x.toInt % 4 = r) (hy : Rg k k y) (e : r2 = (r + k) % 4) : z.toInt % 4 = r2 := by unfold Rg at hy; omega
theorem nx_a {x y z : Int32} {a b c d : Int} (t : z.toInt = x.toInt + y.toInt) (hx : Rg a b x) (hy : Rg c d y) (h : 0 ≤ a ∧ 0 ≤ c) : z.toNatClampNeg = x.toNatClampNeg + y.toNatClampNeg := by
  have e1 := ix_n hx h.1; have e2 := ix_n hy h.2
  have e3 : z.toNatClampNeg = z.toInt.toNat := rfl
  omega
theorem nx_m {x z : Int32} {a b : Int} {k : Nat} (t : z.toInt = x.toInt * (k : Int)) (hx : Rg a b x) (h : 0 ≤ a) : z.toNatClampNeg = k * x.toNatClampNeg := by
  have e1 := ix_n hx h
  have e3 : z.toNatClampNeg = z.toInt.toNat := rfl
  rw [e3, t, ← e1, Int.mul_comm]
  exact Int.toNat_natCast _
theorem ls_rg {a b c d lo hi : Int} {x y r : Int32} (e : r ≤ x ∧ r ≤ y ∧ (r = x ∨ r = y)) (hx : Rg a b x) (hy : Rg c d y) (h1 : lo ≤ a ∧ lo ≤ c) (h2 : b ≤ hi ∨ d ≤ hi) : Rg lo hi r := by
  obtain ⟨e1, e2, e3⟩ := e
  have e1 := Int32.le_iff_toInt_le.mp e1; have e2 := Int32.le_iff_toInt_le.mp e2
  unfold Rg at *
  rcases e3 with e3 | e3 <;> subst e3 <;> omega
end INW
