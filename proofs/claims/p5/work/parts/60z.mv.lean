section MVW
variable {L : List Nat} {κ ln : Nat → Nat} {R : Nat → Nat → Option Nat} {ow : Nat → Nat × Nat} {I I1 I2 I3 I4 I5 I0 : Nat → Nat → Int32} {a b j r x k t ci n n1 n2 f d i i1 i2 p : Nat} {v v1 v2 w : Int32} {lo hi : Int} {T T2 : List Nat}
theorem gj_le (W9 : ∀ a ∈ L, Shp L κ ln R ow a) (h : Gm L κ R I) (hx : x ∈ L) (hk : κ x = 12) (ha : R x 14 = some a) (hp : p < 7) : (I a (91 + p)).toInt ≤ (I a (4 + p)).toInt := by
  have q := (gm_gs W9 h hx hk ha).1 p hp
  rw [show 91 + p = 72 + (19 + p) by omega]; exact q
theorem u1_at (e : I2 = u2_ I a n v) (hn : n = 72 + i) : (fun i => I2 a (72 + i)) = u1_ (fun i => I a (72 + i)) i v := by
  funext k
  rw [e]; unfold u2_ u1_
  by_cases q : k = i
  · rw [if_pos ⟨rfl, by omega⟩, if_pos q]
  · rw [if_neg (fun q2 => q (by omega)), if_neg q]
theorem iw_one (W9 : ∀ a ∈ L, Shp L κ ln R ow a) (h : Gm L κ R I) (hU : Uw L κ ow I2) (hx : x ∈ L) (hk : κ x = 12) (ha : R x 14 = some a) (e : I2 = u2_ I a n v) (hn : n = 72 + i) (hi : i ≤ 76) (G : Gs (I a) (u1_ (fun i => I a (72 + i)) i v)) : Iw L κ R ow I2 :=
  ⟨hU, gm_now W9 h hx hk ha (fun c hc j => by rw [e, u2_b hc]) (fun j hj => by rw [e, u2_j (by omega)]) (by rw [u1_at e hn]; exact G)⟩
theorem iw_free (W9 : ∀ a ∈ L, Shp L κ ln R ow a) (h : Iw L κ R ow I) (hU : Uw L κ ow I2) (hx : x ∈ L) (hk : κ x = 12) (ha : R x 14 = some a) (e : I2 = u2_ I a n v) (hn : (72 ≤ n ∧ n ≤ 77) ∨ (84 ≤ n ∧ n ≤ 90) ∨ (98 ≤ n ∧ n ≤ 104) ∨ n = 147 ∨ n = 148) : Iw L κ R ow I2 :=
  iw_one (i := n - 72) W9 h.2 hU hx hk ha e (by omega) (by omega) (gs_free (gm_gs W9 h.2 hx hk ha) (by omega))
theorem iw_less (W9 : ∀ a ∈ L, Shp L κ ln R ow a) (h : Iw L κ R ow I) (hU : Uw L κ ow I2) (hx : x ∈ L) (hk : κ x = 12) (ha : R x 14 = some a) (e : I2 = u2_ I a n v) (hd : d < 6) (hc : cl_ d i) (hn : n = 72 + i) (hv : v.toInt ≤ (I a n).toInt) : Iw L κ R ow I2 :=
  iw_one W9 h.2 hU hx hk ha e hn (by rcases hc with q | ⟨p, hp, q⟩ <;> omega) (gs_less (gm_gs W9 h.2 hx hk ha) hd hc (by rw [← hn]; exact hv))
theorem iw_just (W9 : ∀ a ∈ L, Shp L κ ln R ow a) (h : Iw L κ R ow I) (hU : Uw L κ ow I2) (hx : x ∈ L) (hk : κ x = 12) (ha : R x 14 = some a) (e : I2 = u2_ I a n v) (hp : p < 7) (hn : n = 91 + p) (hv : v.toInt ≤ (I a (4 + p)).toInt) : Iw L κ R ow I2 :=
  iw_one (i := 19 + p) W9 h.2 hU hx hk ha e (by omega) (by omega) (gs_just (gm_gs W9 h.2 hx hk ha) hp hv)
theorem now_0 (hU : Uw L κ ow I) (aL : a ∈ L) (ra : ro_ κ ow a = 834) (hd : d < 6) (hc : cl_ d i) : 0 ≤ (I a (72 + i)).toInt := by
  have q := hU a aL (72 + i)
  rw [ra] at q
  have : bN 834 (72 + i) = (0, 379) := by
    rcases hc with h | ⟨p, hp, h⟩
    · exact bn_834.trans (zq_78 (by omega))
    · exact bn_834.trans (zq_105 (by omega))
  rw [this] at q; exact q.1
theorem iw_mv (W9 : ∀ a ∈ L, Shp L κ ln R ow a) (h : Gm L κ R I) (hU : Uw L κ ow I3) (hx : x ∈ L) (hk : κ x = 12) (ha : R x 14 = some a) (e1 : I1 = u2_ I a n1 v1) (e2 : I2 = u2_ I1 a f w) (hf : 72 ≤ f ∧ f ≤ 77) (e3 : I3 = u2_ I2 a n2 v2) (hd : d < 6) (c1 : cl_ d i1) (c2 : cl_ d i2) (hn1 : n1 = 72 + i1) (hn2 : n2 = 72 + i2) (m : Int) (hm : m ≤ (I a n1).toInt - v1.toInt) (hv : v2.toInt = (I2 a n2).toInt + m) : Iw L κ R ow I3 := by
  have b1 : i1 ≤ 76 := by rcases c1 with q | ⟨p, hp, q⟩ <;> omega
  have b2 : i2 ≤ 76 := by rcases c2 with q | ⟨p, hp, q⟩ <;> omega
  have nf : i2 ≠ f - 72 := by rcases c2 with q | ⟨p, hp, q⟩ <;> omega
  refine ⟨hU, gm_now W9 h hx hk ha (fun c hc j => by rw [e3, u2_b hc, e2, u2_b hc, e1, u2_b hc]) (fun j hj => by rw [e3, u2_j (by omega), e2, u2_j (by omega), e1, u2_j (by omega)]) ?_⟩
  have G := gs_move (v2 := v2) (m := m) (gm_gs W9 h hx hk ha) hd c1 c2 (v1 := v1) (by rw [← hn1]; exact hm) (by
    rw [hv, e2, u2_j (by omega), hn2]
    have := congrFun (u1_at (i := i1) e1 hn1) i2
    rw [← this])
  have G2 := gs_free (i := f - 72) (v := w) G (by omega)
  refine gs_ext G2 (fun _ _ => rfl) (fun i hi => ?_)
  rw [e3, e2, e1]
  unfold u2_ u1_
  by_cases q1 : i = i2
  · subst q1
    rw [if_pos ⟨rfl, by omega⟩, if_neg nf, if_pos rfl]
  · rw [if_neg (fun q => q1 (by omega))]
    by_cases q2 : i = f - 72
    · rw [if_pos ⟨rfl, by omega⟩, if_pos q2]
    · rw [if_neg (fun q => q2 (by omega)), if_neg q2, if_neg q1]
      by_cases q3 : i = i1
      · rw [if_pos ⟨rfl, by omega⟩, if_pos q3]
      · rw [if_neg (fun q => q3 (by omega)), if_neg q3]
theorem rm_mv (W9 : ∀ a ∈ L, Shp L κ ln R ow a) (h : Iw L κ R ow I) (hx : x ∈ L) (hk : κ x = 12) (ha : R x 14 = some a) (aL : a ∈ L) (ra : ro_ κ ow a = 834) (e1 : I1 = u2_ I a n1 v1) (hf : ∀ i, cl_ d i → I2 a (72 + i) = I1 a (72 + i)) (hd : d < 6) (c1 : cl_ d i1) (c2 : cl_ d i2) (hn1 : n1 = 72 + i1) (hn2 : n2 = 72 + i2) (hv1 : 0 ≤ v1.toInt) : (I2 a n2).toInt + ((I a n1).toInt - v1.toInt) ≤ 379 := by
  have G := (gm_gs W9 h.2 hx hk ha).2 d hd
  have e := u1_at (i := i1) e1 hn1
  have q := wd_le (g := u1_ (fun i => I a (72 + i)) i1 v1) c2 (fun j hj => by
    unfold u1_; split
    · exact hv1
    · exact now_0 h.1 aL ra hd hj)
  rw [wd_u c1] at q
  have e3 : (I2 a n2) = u1_ (fun i => I a (72 + i)) i1 v1 i2 := by rw [hn2, hf i2 c2, ← e]
  rw [e3, hn1]; omega
theorem rm_z {y m z : Int32} {b : Int} (hr : (I2 a n2).toInt + ((I a n1).toInt - v1.toInt) ≤ 379) (hy : I2 a n2 = y) (hm : m.toInt ≤ (I a n1).toInt - v1.toInt) (tz : z.toInt = y.toInt + m.toInt) (hz : Rg 0 b z) : Rg 0 379 z := by
  rw [hy] at hr; unfold Rg at *; omega
theorem iw_mv2 (W9 : ∀ a ∈ L, Shp L κ ln R ow a) (h : Gm L κ R I) (hU : Uw L κ ow I3) (hx : x ∈ L) (hk : κ x = 12) (ha : R x 14 = some a) (e1 : I1 = u2_ I a n1 v1) (e3 : I3 = u2_ I1 a n2 v2) (hd : d < 6) (c1 : cl_ d i1) (c2 : cl_ d i2) (hn1 : n1 = 72 + i1) (hn2 : n2 = 72 + i2) (m : Int) (hm : m ≤ (I a n1).toInt - v1.toInt) (hv : v2.toInt = (I1 a n2).toInt + m) : Iw L κ R ow I3 := by
  have b1 : i1 ≤ 76 := by rcases c1 with q | ⟨p, hp, q⟩ <;> omega
  have b2 : i2 ≤ 76 := by rcases c2 with q | ⟨p, hp, q⟩ <;> omega
  refine ⟨hU, gm_now W9 h hx hk ha (fun c hc j => by rw [e3, u2_b hc, e1, u2_b hc]) (fun j hj => by rw [e3, u2_j (by omega), e1, u2_j (by omega)]) ?_⟩
  have G := gs_move (v2 := v2) (m := m) (gm_gs W9 h hx hk ha) hd c1 c2 (v1 := v1) (by rw [← hn1]; exact hm) (by
    rw [hv, hn2]
    have := congrFun (u1_at (i := i1) e1 hn1) i2
    rw [← this])
  rw [u1_at e3 hn2, u1_at e1 hn1]; exact G
/-- what is eaten is there and is wanted -/
def Ea_ (g : Nat → Int32) (p d : Nat) (n : Int32) : Prop := n.toInt ≤ (g (105 + 6 * p + d)).toInt ∧ n.toInt + (g (91 + p)).toInt ≤ (g (4 + p)).toInt
theorem ea_le {g : Nat → Int32} {q : Int32} {m : Nat} (h : Ea_ g p d v) (hm : m = 105 + 6 * p + d) (hq : g m = q) : v ≤ q := Int32.le_iff_toInt_le.mpr (by rw [← hq, hm]; exact h.1)
theorem ju_rg {jv z : Int32} {b : Int} {n3 : Nat} (he : Ea_ (I a) p d v) (e1 : I1 = u2_ I a n1 v1) (h1 : n1 = 105 + 6 * p + d) (e2 : I2 = u2_ I1 a n2 v2) (h2 : n2 = 84 + p) (hp : p < 7) (hj : I2 a n3 = jv) (h3 : n3 = 91 + p) (tz : z.toInt = jv.toInt + v.toInt) (hz : Rg 0 b z) (hU : Uw L κ ow I2) (aL : a ∈ L) (ra : ro_ κ ow a = 834) : Rg 0 20 z ∧ z.toInt ≤ (I2 a (4 + p)).toInt := by
  have q1 : I2 a (91 + p) = I a (91 + p) := by rw [e2, u2_j (by omega), e1, u2_j (by omega)]
  have q2 : I2 a (4 + p) = I a (4 + p) := by rw [e2, u2_j (by omega), e1, u2_j (by omega)]
  have q3 := hU a aL (4 + p)
  rw [ra, show bN 834 (4 + p) = (0, 20) from bn_834.trans (zq_4 (by omega))] at q3
  have h9 := he.2
  rw [← q1, ← h3, hj, ← q2] at h9
  have q4 := q3.2
  unfold Rg at *
  exact ⟨⟨hz.1, by omega⟩, by omega⟩
theorem ea_mk {g : Nat → Int32} {r1 r2 rr : Int32} (h1 : r1 = g (105 + 6 * p + d)) (h2 : r2.toInt = (g (4 + p)).toInt - (g (91 + p)).toInt) (h3 : rr ≤ r1) (h4 : rr ≤ r2) : Ea_ g p d rr := by
  have a1 := Int32.le_iff_toInt_le.mp h3; have a2 := Int32.le_iff_toInt_le.mp h4
  unfold Ea_; rw [← h1]; omega
end MVW
