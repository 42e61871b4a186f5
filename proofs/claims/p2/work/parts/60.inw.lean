/-! the model's memory -/
def zn_ (j : Nat) : Int × Int := if j = 0 then (0, 7) else if j = 1 then (0, 6) else if j = 3 then (0, 9) else if 4 ≤ j ∧ j ≤ 10 then (0, 20) else if 18 ≤ j ∧ j ≤ 23 then (0, 99) else if 24 ≤ j ∧ j ≤ 29 then (0, 9) else if 30 ≤ j ∧ j ≤ 71 then (0, 40) else if 78 ≤ j ∧ j ≤ 83 then (0, 379) else if 91 ≤ j ∧ j ≤ 97 then (0, 20) else if 105 ≤ j ∧ j ≤ 146 then (0, 379) else if j = 148 then (0, 59) else (-2147483648, 2147483647)
def rz_ (j : Nat) : Int × Int := if j % 4 = 0 then (0, 6) else if j % 4 = 1 then (0, 6) else if j % 4 = 2 then (-1, 5) else (0, 60)
def nO (j : Nat) : Int × Int := match j with
  | 2 => (0, 940)
  | 3 => (0, 940)
  | 5 => (0, 940)
  | 6 => (0, 940)
  | 7 => (0, 4)
  | 23 => (0, 8)
  | 24 => (0, 1)
  | 25 => (0, 1)
  | 29 => (0, 7)
  | 37 => (0, 7)
  | 40 => (0, 64)
  | 44 => (0, 40)
  | 45 => (0, 1)
  | 47 => (0, 60)
  | 48 => (0, 20)
  | 49 => (0, 8)
  | 50 => (0, 59)
  | _ => (-2147483648, 2147483647)
def nA (r j : Nat) : Int × Int := match r with
  | 834 => zn_ j
  | 835 => zn_ j
  | 836 => zn_ (j % 389)
  | 837 => zn_ (72 + j % 75)
  | 838 => zn_ (72 + j)
  | 848 => zn_ (72 + j % 75)
  | 862 => rz_ j
  | 821 => (0, 255)
  | 842 => (0, 1)
  | 854 => (0, 1)
  | _ => (-2147483648, 2147483647)
def bN (r j : Nat) : Int × Int := if r < 13 then nO j else nA r j
def Uw (L : List Nat) (κ : Nat → Nat) (ow : Nat → Nat × Nat) (I : Nat → Nat → Int32) : Prop := ∀ a ∈ L, ∀ j, Rg (bN (ro_ κ ow a) j).1 (bN (ro_ κ ow a) j).2 (I a j)
/-- the so-part g under the head h: nobody has eaten more than he wants; of each dish at most 379 parts -/
def wd_ (g : Nat → Int32) (d : Nat) : Int := (g (6 + d)).toInt + (g (33 + d)).toInt + (g (39 + d)).toInt + (g (45 + d)).toInt + (g (51 + d)).toInt + (g (57 + d)).toInt + (g (63 + d)).toInt + (g (69 + d)).toInt
def Gs (h g : Nat → Int32) : Prop := (∀ p, p < 7 → (g (19 + p)).toInt ≤ (h (4 + p)).toInt) ∧ (∀ d, d < 6 → wd_ g d ≤ 379)
/-- the nodes of a sentence: what is joined comes first -/
def Tr (n : Nat → Int32) : Prop := ∀ k, k < 60 → ((n (4 * k) = 1 ∨ n (4 * k) = 2 ∨ n (4 * k) = 3) → 0 ≤ (n (4 * k + 1)).toInt ∧ (n (4 * k + 1)).toInt < k) ∧ ((n (4 * k) = 2 ∨ n (4 * k) = 3) → 0 ≤ (n (4 * k + 2)).toInt ∧ (n (4 * k + 2)).toInt < k) ∧ (n (4 * k) = 73 → 0 ≤ (n (4 * k + 1)).toInt ∧ (n (4 * k + 1)).toInt ≤ 5)
def Gm (L : List Nat) (κ : Nat → Nat) (R : Nat → Nat → Option Nat) (I : Nat → Nat → Int32) : Prop := ∀ x ∈ L, κ x = 12 → ∀ a s k nd rw, R x 14 = some a → R x 17 = some s → R x 16 = some k → R x 46 = some nd → R x 42 = some rw →
  Gs (I a) (fun i => I a (72 + i)) ∧ (∀ j : Nat, (j : Int) < (I x 23).toInt → Gs (I a) (fun i => I s (75 * j + i))) ∧ (∀ q, q < 2 → Gs (fun i => I k (389 * q + i)) (fun i => I k (389 * q + 72 + i))) ∧ Tr (fun j => I a (149 + j)) ∧ (∀ q, q < 2 → Tr (fun j => I k (389 * q + 149 + j))) ∧ Tr (fun j => I nd j) ∧ (∀ j : Nat, (j : Int) < (I x 44).toInt → 0 ≤ (I rw (4 * j + 2)).toInt)
def Iw (L : List Nat) (κ : Nat → Nat) (R : Nat → Nat → Option Nat) (ow : Nat → Nat × Nat) (I : Nat → Nat → Int32) : Prop := Uw L κ ow I ∧ Gm L κ R I
def spw_ (t : Nat) : Bool := t == 83400 || t == 83700 || t == 83600 || t == 86600 || t == 86200 || t == 1223 || t == 1244
section INW
variable {L : List Nat} {κ ln : Nat → Nat} {R : Nat → Nat → Option Nat} {ow : Nat → Nat × Nat} {I I1 I2 I3 I4 I5 I0 : Nat → Nat → Int32} {a b j r x k t ci n : Nat} {v : Int32} {lo hi : Int} {T T2 : List Nat}
theorem ex_getw (hU : Uw L κ ow I) (ha : a ∈ L) (hr : ro_ κ ow a = r) (hb : bN r j = (lo, hi)) : ∃ v, I a j = v ∧ Rg lo hi v := by
  have h := hU a ha j
  rw [hr, hb] at h
  exact ⟨_, rfl, h⟩
theorem uw_put (hU : Uw L κ ow I) (e : I2 = u2_ I a j v) (hr : ro_ κ ow a = r) (hb : bN r j = (lo, hi)) (hv : Rg lo hi v) : Uw L κ ow I2 := by
  intro c hc i
  rw [e]
  unfold u2_
  split
  · rename_i h
    rw [h.1, h.2, hr, hb]; exact hv
  · exact hU c hc i
theorem z0_in (j : Nat) : (zn_ j).1 ≤ 0 ∧ 0 ≤ (zn_ j).2 := by
  unfold zn_
  repeat' split
  all_goals exact ⟨by decide, by decide⟩
theorem uw_put0 (hU : Uw L κ ow I) (e : I2 = u2_ I a j 0) (hr : ro_ κ ow a = r) (h0 : (bN r j).1 ≤ 0 ∧ 0 ≤ (bN r j).2) : Uw L κ ow I2 := by
  intro c hc i
  rw [e]
  unfold u2_
  split
  · rename_i h
    rw [h.1, h.2, hr]; exact h0
  · exact hU c hc i
theorem gm_of (W9 : ∀ a ∈ L, Shp L κ ln R ow a) (h : Gm L κ R I) (hf : ∀ c ∈ L, ∀ i, spw_ (tg_ (ro_ κ ow c) i) = true → I2 c i = I c i) : Gm L κ R I2 := by
  intro x hx hk a s k nd rw h1 h2 h3 h4 h5
  obtain ⟨a1, a2, -⟩ := rw_in W9 hx hk (k := 14) (t := 14) (n := 389) rfl (by decide) h1
  obtain ⟨b1, b2, -⟩ := rw_in W9 hx hk (k := 17) (t := 14) (n := 600) rfl (by decide) h2
  obtain ⟨c1, c2, -⟩ := rw_in W9 hx hk (k := 16) (t := 14) (n := 778) rfl (by decide) h3
  obtain ⟨d1, d2, -⟩ := rw_in W9 hx hk (k := 46) (t := 14) (n := 240) rfl (by decide) h4
  obtain ⟨e1, e2, -⟩ := rw_in W9 hx hk (k := 42) (t := 14) (n := 160) rfl (by decide) h5
  have rx : ro_ κ ow x = 12 := ro_o hk (by decide)
  have ea : I2 a = I a := funext fun i => hf a a1 i (by rw [a2]; rfl)
  have eb : I2 s = I s := funext fun i => hf s b1 i (by rw [b2]; rfl)
  have ec : I2 k = I k := funext fun i => hf k c1 i (by rw [c2]; rfl)
  have ed : I2 nd = I nd := funext fun i => hf nd d1 i (by rw [d2]; rfl)
  have ee : I2 rw = I rw := funext fun i => hf rw e1 i (by rw [e2]; rfl)
  rw [ea, eb, ec, ed, ee, hf x hx 23 (by rw [rx]; rfl), hf x hx 44 (by rw [rx]; rfl)]
  exact h x hx hk a s k nd rw h1 h2 h3 h4 h5
theorem iw_put (W9 : ∀ a ∈ L, Shp L κ ln R ow a) (h : Iw L κ R ow I) (e : I2 = u2_ I a j v) (hr : ro_ κ ow a = r) (hb : bN r j = (lo, hi)) (hv : Rg lo hi v) (hs : spw_ (tg_ r j) = false) : Iw L κ R ow I2 :=
  ⟨uw_put h.1 e hr hb hv, gm_of W9 h.2 (fun c hc i q => by
    rw [e]; unfold u2_; split
    · rename_i h2; rw [h2.1, h2.2, hr, hs] at q; cases q
    · rfl)⟩
theorem iw_fq (W9 : ∀ a ∈ L, Shp L κ ln R ow a) (h : Gm L κ R I) (hU : Uw L κ ow I2) (hF : Fq L κ ow T I I2) (hT : ∀ t ∈ T, spw_ t = false) : Iw L κ R ow I2 :=
  ⟨hU, gm_of W9 h (fun c hc i q => hF c hc i (fun q2 => by have := hT _ q2; rw [q] at this; cases this))⟩
end INW
