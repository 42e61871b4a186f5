/-! the memory: bounds by role, frames by tags -/
def bO (r j : Nat) : Int × Int := match r, j with
  | 0, 4 => (0, 40)
  | 0, 5 => (0, 1)
  | 0, 7 => (0, 40)
  | 3, 3 => (0, 1)
  | 4, 3 => (0, 7)
  | 5, 1 => (0, 8)
  | 5, 2 => (0, 8)
  | 6, 1 => (0, 7)
  | 7, 4 => (0, 40)
  | 8, 5 => (0, 7)
  | 8, 6 => (0, 6)
  | 9, 2 => (0, 1)
  | 9, 3 => (0, 1)
  | 10, 5 => (0, 940)
  | 10, 6 => (0, 901)
  | 10, 7 => (-1, 900)
  | 11, 14 => (0, 40)
  | _, _ => (-2147483648, 2147483647)
def bA (r j : Nat) : Int × Int := match r with
  | 101 => (-1, 6)
  | 102 => (-1, 5)
  | 582 => (-1, 6)
  | 700 => (-128, 127)
  | 773 => (-128, 127)
  | _ => (-2147483648, 2147483647)
def bI (r j : Nat) : Int × Int := if r < 13 then bO r j else bA r j
def ro_ (κ : Nat → Nat) (ow : Nat → Nat × Nat) (a : Nat) : Nat := if κ a < 13 then κ a else 100 + 60 * κ (ow a).1 + (ow a).2
def tg_ (r j : Nat) : Nat := if r < 13 then r * 100 + j else r * 100
def Uv (L : List Nat) (κ : Nat → Nat) (ow : Nat → Nat × Nat) (I : Nat → Nat → Int32) : Prop := ∀ a ∈ L, ∀ j, Rg (bI (ro_ κ ow a) j).1 (bI (ro_ κ ow a) j).2 (I a j)
def Fq {α : Type} (L : List Nat) (κ : Nat → Nat) (ow : Nat → Nat × Nat) (T : List Nat) (I I2 : Nat → Nat → α) : Prop := ∀ a ∈ L, ∀ j, tg_ (ro_ κ ow a) j ∉ T → I2 a j = I a j
section MEM
variable {L : List Nat} {κ ln : Nat → Nat} {ow : Nat → Nat × Nat} {I I2 I0 : Nat → Nat → Int32} {a b j r x k t ci : Nat} {v : Int32} {lo hi : Int} {T T2 : List Nat}
theorem ro_o (hk : κ a = ci) (h : ci < 13) : ro_ κ ow a = ci := by unfold ro_; rw [hk, if_pos h]
theorem ro_a (hk : κ a = t) (h : 13 ≤ t) (ho : ow a = (x, k)) (hx : κ x = ci) (hr : r = 100 + 60 * ci + k) : ro_ κ ow a = r := by unfold ro_; rw [hk, if_neg (by omega), ho, hx, hr]
theorem ex_get (hU : Uv L κ ow I) (ha : a ∈ L) (hr : ro_ κ ow a = r) (hb : bI r j = (lo, hi)) : ∃ v, I a j = v ∧ Rg lo hi v := by
  have h := hU a ha j
  rw [hr, hb] at h
  exact ⟨_, rfl, h⟩
theorem uv_put (hU : Uv L κ ow I) (e : I2 = u2_ I a j v) (hr : ro_ κ ow a = r) (hb : bI r j = (lo, hi)) (hv : Rg lo hi v) : Uv L κ ow I2 := by
  intro c hc i
  rw [e]
  unfold u2_
  split
  · rename_i h
    rw [h.1, h.2, hr, hb]; exact hv
  · exact hU c hc i
theorem uv_cp {n : Nat} (hU : Uv L κ ow I) (hb : b ∈ L) (e : I2 = k2_ I b a n) (hr : ro_ κ ow a = r) (hr2 : ro_ κ ow b = r) : Uv L κ ow I2 := by
  intro c hc i
  rw [e]
  unfold k2_
  split
  · rename_i h
    rw [h.1, hr, ← hr2]; exact hU b hb i
  · exact hU c hc i
theorem fq_rf {α : Type} {I : Nat → Nat → α} : Fq L κ ow T I I := fun _ _ _ _ => rfl
theorem fq_puto {α : Type} {I I0 I2 : Nat → Nat → α} {v : α} (hF : Fq L κ ow T I0 I) (e : I2 = u2_ I a j v) (hk : κ a = ci) (h : ci < 13) (ht : ci * 100 + j ∈ T) : Fq L κ ow T I0 I2 := by
  intro c hc i hn
  rw [e]
  unfold u2_
  split
  · rename_i h2
    refine absurd ?_ hn
    rw [h2.1, h2.2, ro_o hk h, tg_, if_pos h]; exact ht
  · exact hF c hc i hn
theorem fq_puta {α : Type} {I I0 I2 : Nat → Nat → α} {v : α} (hF : Fq L κ ow T I0 I) (e : I2 = u2_ I a j v) (hr : ro_ κ ow a = r) (h : 13 ≤ r) (ht : r * 100 ∈ T) : Fq L κ ow T I0 I2 := by
  intro c hc i hn
  rw [e]
  unfold u2_
  split
  · rename_i h2
    refine absurd ?_ hn
    rw [h2.1, h2.2, hr, tg_, if_neg (by omega)]; exact ht
  · exact hF c hc i hn
theorem fq_cp {α : Type} {I I0 I2 : Nat → Nat → α} {n : Nat} (hF : Fq L κ ow T I0 I) (e : I2 = k2_ I b a n) (hr : ro_ κ ow a = r) (h : 13 ≤ r) (ht : r * 100 ∈ T) : Fq L κ ow T I0 I2 := by
  intro c hc i hn
  rw [e]
  unfold k2_
  split
  · rename_i h2
    refine absurd ?_ hn
    rw [h2.1, hr, tg_, if_neg (by omega)]; exact ht
  · exact hF c hc i hn
theorem fq_tr {α : Type} {I I0 I2 : Nat → Nat → α} (hF : Fq L κ ow T I0 I) (h2 : Fq L κ ow T2 I I2) (hs : ∀ t ∈ T2, t ∈ T) : Fq L κ ow T I0 I2 := fun c hc i hn => (h2 c hc i (fun h => hn (hs _ h))).trans (hF c hc i hn)
theorem fq_at {α : Type} {I I2 : Nat → Nat → α} {v : α} (h : Fq L κ ow T I I2) (ha : a ∈ L) (hk : κ a = ci) (h9 : ci < 13) (ht : ci * 100 + j ∉ T) (hc : I a j = v) : I2 a j = v := (h a ha j (by rw [ro_o hk h9, tg_, if_pos h9]; exact ht)).trans hc
theorem kp_k {α : Type} {I I2 : Nat → Nat → α} {v w : α} {i : Nat} (e : I2 = u2_ I b i w) (h : κ a ≠ κ b) (hc : I a j = v) : I2 a j = v := by rw [e, u2_k h]; exact hc
theorem kp_j {α : Type} {I I2 : Nat → Nat → α} {v w : α} {i : Nat} (e : I2 = u2_ I b i w) (h : j ≠ i) (hc : I a j = v) : I2 a j = v := by rw [e, u2_j h]; exact hc
theorem kp_c {α : Type} {I I2 : Nat → Nat → α} {v : α} {n b2 : Nat} (e : I2 = k2_ I b2 b n) (h : κ a ≠ κ b) (hc : I a j = v) : I2 a j = v := by rw [e, k2_k h]; exact hc
theorem kp_s {α : Type} {I I2 : Nat → Nat → α} {w : α} (e : I2 = u2_ I a j w) : I2 a j = w := by rw [e]; exact u2_s
end MEM
