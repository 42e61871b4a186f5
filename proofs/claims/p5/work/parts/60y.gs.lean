/-! the so-part under writes -/
def u1_ (g : Nat → Int32) (i : Nat) (v : Int32) : Nat → Int32 := fun k => if k = i then v else g k
theorem u1_s {g : Nat → Int32} {i : Nat} {v : Int32} : u1_ g i v i = v := by simp [u1_]
theorem u1_n {g : Nat → Int32} {i k : Nat} {v : Int32} (h : k ≠ i) : u1_ g i v k = g k := by simp [u1_, h]
/-- a place where parts of dish d lie -/
def cl_ (d i : Nat) : Prop := i = 6 + d ∨ ∃ p, p < 7 ∧ i = 33 + 6 * p + d
theorem wd_u {g : Nat → Int32} {d i : Nat} {v : Int32} (h : cl_ d i) : wd_ (u1_ g i v) d = wd_ g d - (g i).toInt + v.toInt := by
  unfold wd_
  rcases h with h | ⟨p, hp, h⟩
  · subst h
    rw [u1_s, u1_n (by omega), u1_n (by omega), u1_n (by omega), u1_n (by omega), u1_n (by omega), u1_n (by omega), u1_n (by omega)]
    omega
  · have : p = 0 ∨ p = 1 ∨ p = 2 ∨ p = 3 ∨ p = 4 ∨ p = 5 ∨ p = 6 := by omega
    rcases this with q | q | q | q | q | q | q <;> subst q
    · have e : i = 33 + d := by omega
      subst e
      rw [u1_n (g := g) (i := 33 + d) (k := 6 + d) (v := v) (by omega), u1_s, u1_n (g := g) (i := 33 + d) (k := 39 + d) (v := v) (by omega), u1_n (g := g) (i := 33 + d) (k := 45 + d) (v := v) (by omega), u1_n (g := g) (i := 33 + d) (k := 51 + d) (v := v) (by omega), u1_n (g := g) (i := 33 + d) (k := 57 + d) (v := v) (by omega), u1_n (g := g) (i := 33 + d) (k := 63 + d) (v := v) (by omega), u1_n (g := g) (i := 33 + d) (k := 69 + d) (v := v) (by omega)]
      omega
    · have e : i = 39 + d := by omega
      subst e
      rw [u1_n (g := g) (i := 39 + d) (k := 6 + d) (v := v) (by omega), u1_n (g := g) (i := 39 + d) (k := 33 + d) (v := v) (by omega), u1_s, u1_n (g := g) (i := 39 + d) (k := 45 + d) (v := v) (by omega), u1_n (g := g) (i := 39 + d) (k := 51 + d) (v := v) (by omega), u1_n (g := g) (i := 39 + d) (k := 57 + d) (v := v) (by omega), u1_n (g := g) (i := 39 + d) (k := 63 + d) (v := v) (by omega), u1_n (g := g) (i := 39 + d) (k := 69 + d) (v := v) (by omega)]
      omega
    · have e : i = 45 + d := by omega
      subst e
      rw [u1_n (g := g) (i := 45 + d) (k := 6 + d) (v := v) (by omega), u1_n (g := g) (i := 45 + d) (k := 33 + d) (v := v) (by omega), u1_n (g := g) (i := 45 + d) (k := 39 + d) (v := v) (by omega), u1_s, u1_n (g := g) (i := 45 + d) (k := 51 + d) (v := v) (by omega), u1_n (g := g) (i := 45 + d) (k := 57 + d) (v := v) (by omega), u1_n (g := g) (i := 45 + d) (k := 63 + d) (v := v) (by omega), u1_n (g := g) (i := 45 + d) (k := 69 + d) (v := v) (by omega)]
      omega
    · have e : i = 51 + d := by omega
      subst e
      rw [u1_n (g := g) (i := 51 + d) (k := 6 + d) (v := v) (by omega), u1_n (g := g) (i := 51 + d) (k := 33 + d) (v := v) (by omega), u1_n (g := g) (i := 51 + d) (k := 39 + d) (v := v) (by omega), u1_n (g := g) (i := 51 + d) (k := 45 + d) (v := v) (by omega), u1_s, u1_n (g := g) (i := 51 + d) (k := 57 + d) (v := v) (by omega), u1_n (g := g) (i := 51 + d) (k := 63 + d) (v := v) (by omega), u1_n (g := g) (i := 51 + d) (k := 69 + d) (v := v) (by omega)]
      omega
    · have e : i = 57 + d := by omega
      subst e
      rw [u1_n (g := g) (i := 57 + d) (k := 6 + d) (v := v) (by omega), u1_n (g := g) (i := 57 + d) (k := 33 + d) (v := v) (by omega), u1_n (g := g) (i := 57 + d) (k := 39 + d) (v := v) (by omega), u1_n (g := g) (i := 57 + d) (k := 45 + d) (v := v) (by omega), u1_n (g := g) (i := 57 + d) (k := 51 + d) (v := v) (by omega), u1_s, u1_n (g := g) (i := 57 + d) (k := 63 + d) (v := v) (by omega), u1_n (g := g) (i := 57 + d) (k := 69 + d) (v := v) (by omega)]
      omega
    · have e : i = 63 + d := by omega
      subst e
      rw [u1_n (g := g) (i := 63 + d) (k := 6 + d) (v := v) (by omega), u1_n (g := g) (i := 63 + d) (k := 33 + d) (v := v) (by omega), u1_n (g := g) (i := 63 + d) (k := 39 + d) (v := v) (by omega), u1_n (g := g) (i := 63 + d) (k := 45 + d) (v := v) (by omega), u1_n (g := g) (i := 63 + d) (k := 51 + d) (v := v) (by omega), u1_n (g := g) (i := 63 + d) (k := 57 + d) (v := v) (by omega), u1_s, u1_n (g := g) (i := 63 + d) (k := 69 + d) (v := v) (by omega)]
      omega
    · have e : i = 69 + d := by omega
      subst e
      rw [u1_n (g := g) (i := 69 + d) (k := 6 + d) (v := v) (by omega), u1_n (g := g) (i := 69 + d) (k := 33 + d) (v := v) (by omega), u1_n (g := g) (i := 69 + d) (k := 39 + d) (v := v) (by omega), u1_n (g := g) (i := 69 + d) (k := 45 + d) (v := v) (by omega), u1_n (g := g) (i := 69 + d) (k := 51 + d) (v := v) (by omega), u1_n (g := g) (i := 69 + d) (k := 57 + d) (v := v) (by omega), u1_n (g := g) (i := 69 + d) (k := 63 + d) (v := v) (by omega), u1_s]
      omega
theorem wd_o {g : Nat → Int32} {d i : Nat} {v : Int32} (h : ¬ cl_ d i) : wd_ (u1_ g i v) d = wd_ g d := by
  have h0 : i ≠ 6 + d := fun q => h (Or.inl q)
  have h1 : ∀ p, p < 7 → i ≠ 33 + 6 * p + d := fun p hp q => h (Or.inr ⟨p, hp, q⟩)
  have a0 := h1 0 (by omega); have a1 := h1 1 (by omega); have a2 := h1 2 (by omega); have a3 := h1 3 (by omega); have a4 := h1 4 (by omega); have a5 := h1 5 (by omega); have a6 := h1 6 (by omega)
  unfold wd_
  rw [u1_n (k := 6 + d) (by omega), u1_n (k := 33 + d) (by omega), u1_n (k := 39 + d) (by omega), u1_n (k := 45 + d) (by omega), u1_n (k := 51 + d) (by omega), u1_n (k := 57 + d) (by omega), u1_n (k := 63 + d) (by omega), u1_n (k := 69 + d) (by omega)]
theorem cl_1 {d d2 i : Nat} (hd : d < 6) (hd2 : d2 < 6) (h : cl_ d i) (h2 : cl_ d2 i) : d = d2 := by
  rcases h with h | ⟨p, hp, h⟩ <;> rcases h2 with h2 | ⟨q, hq, h2⟩ <;> omega
theorem cl_j {d i p : Nat} (hd : d < 6) (h : cl_ d i) (hp : p < 7) : 19 + p ≠ i := by
  rcases h with h | ⟨q, hq, h⟩ <;> omega
/-- less of something -/
theorem gs_less {h g : Nat → Int32} {d i : Nat} {v : Int32} (G : Gs h g) (hd : d < 6) (hc : cl_ d i) (hv : v.toInt ≤ (g i).toInt) : Gs h (u1_ g i v) := by
  refine ⟨fun p hp => by rw [u1_n (cl_j hd hc hp)]; exact G.1 p hp, fun d2 h2 => ?_⟩
  by_cases q : d2 = d
  · subst q; rw [wd_u hc]; have := G.2 d2 h2; omega
  · rw [wd_o (fun h9 => q (cl_1 h2 hd h9 hc))]; exact G.2 d2 h2
/-- what is neither a plate, nor parts, nor eaten at this meal -/
theorem gs_free {h g : Nat → Int32} {i : Nat} {v : Int32} (G : Gs h g) (hi : (i < 6 ∨ 12 ≤ i) ∧ (i < 19 ∨ 26 ≤ i) ∧ (i < 33 ∨ 75 ≤ i)) : Gs h (u1_ g i v) :=
  ⟨fun p hp => by rw [u1_n (by omega)]; exact G.1 p hp, fun d hd => by rw [wd_o (fun q => by rcases q with q | ⟨p, hp, q⟩ <;> omega)]; exact G.2 d hd⟩
theorem gs_just {h g : Nat → Int32} {p : Nat} {v : Int32} (G : Gs h g) (hp : p < 7) (hv : v.toInt ≤ (h (4 + p)).toInt) : Gs h (u1_ g (19 + p) v) :=
  ⟨fun p2 h2 => by
    by_cases q : p2 = p
    · subst q; rw [u1_s]; exact hv
    · rw [u1_n (by omega)]; exact G.1 p2 h2, fun d hd => by rw [wd_o (fun q => by rcases q with q | ⟨p, hp, q⟩ <;> omega)]; exact G.2 d hd⟩
/-- parts go from one place of a dish to another one -/
theorem gs_move {h g : Nat → Int32} {d i1 i2 : Nat} {v1 v2 : Int32} {m : Int} (G : Gs h g) (hd : d < 6) (c1 : cl_ d i1) (c2 : cl_ d i2) (hm : m ≤ (g i1).toInt - v1.toInt) (hv : v2.toInt = (u1_ g i1 v1 i2).toInt + m) : Gs h (u1_ (u1_ g i1 v1) i2 v2) := by
  refine ⟨fun p hp => by rw [u1_n (cl_j hd c2 hp), u1_n (cl_j hd c1 hp)]; exact G.1 p hp, fun d2 h2 => ?_⟩
  by_cases q : d2 = d
  · subst q; rw [wd_u c2, wd_u c1]; have := G.2 d2 h2; omega
  · rw [wd_o (fun h9 => q (cl_1 h2 hd h9 c2)), wd_o (fun h9 => q (cl_1 h2 hd h9 c1))]; exact G.2 d2 h2
/-- of a dish no place holds more than there is -/
theorem wd_le {g : Nat → Int32} {d i : Nat} (h : cl_ d i) (h0 : ∀ j, cl_ d j → 0 ≤ (g j).toInt) : (g i).toInt ≤ wd_ g d := by
  have z0 := h0 (6 + d) (Or.inl rfl)
  have z1 := h0 (33 + d) (Or.inr ⟨0, by omega, by omega⟩)
  have z2 := h0 (39 + d) (Or.inr ⟨1, by omega, by omega⟩)
  have z3 := h0 (45 + d) (Or.inr ⟨2, by omega, by omega⟩)
  have z4 := h0 (51 + d) (Or.inr ⟨3, by omega, by omega⟩)
  have z5 := h0 (57 + d) (Or.inr ⟨4, by omega, by omega⟩)
  have z6 := h0 (63 + d) (Or.inr ⟨5, by omega, by omega⟩)
  have z7 := h0 (69 + d) (Or.inr ⟨6, by omega, by omega⟩)
  unfold wd_
  rcases h with h | ⟨p, hp, h⟩
  · subst h; omega
  · have : p = 0 ∨ p = 1 ∨ p = 2 ∨ p = 3 ∨ p = 4 ∨ p = 5 ∨ p = 6 := by omega
    rcases this with q | q | q | q | q | q | q <;> subst q
    · have e : i = 33 + d := by omega
      subst e; omega
    · have e : i = 39 + d := by omega
      subst e; omega
    · have e : i = 45 + d := by omega
      subst e; omega
    · have e : i = 51 + d := by omega
      subst e; omega
    · have e : i = 57 + d := by omega
      subst e; omega
    · have e : i = 63 + d := by omega
      subst e; omega
    · have e : i = 69 + d := by omega
      subst e; omega
theorem gs_ext {h g h2 g2 : Nat → Int32} (G : Gs h g) (e1 : ∀ p, p < 7 → h2 (4 + p) = h (4 + p)) (e2 : ∀ i, i < 75 → g2 i = g i) : Gs h2 g2 :=
  ⟨fun p hp => by rw [e1 p hp, e2 _ (by omega)]; exact G.1 p hp, fun d hd => by
    have := G.2 d hd
    unfold wd_ at *
    rw [e2 _ (by omega), e2 _ (by omega), e2 _ (by omega), e2 _ (by omega), e2 _ (by omega), e2 _ (by omega), e2 _ (by omega), e2 _ (by omega)]; exact this⟩
theorem tr_ext {n n2 : Nat → Int32} (h : Tr n) (e : ∀ j, j < 240 → n2 j = n j) : Tr n2 := fun k hk => by
  rw [e _ (by omega), e _ (by omega), e _ (by omega)]; exact h k hk
section GSW
variable {L : List Nat} {κ ln : Nat → Nat} {R : Nat → Nat → Option Nat} {ow : Nat → Nat × Nat} {I I1 I2 I3 I4 I5 I0 : Nat → Nat → Int32} {a b j r x k t ci n : Nat} {v : Int32} {lo hi : Int} {T T2 : List Nat}
/-- only the so-part of what is now has changed -/
theorem gm_now (W9 : ∀ a ∈ L, Shp L κ ln R ow a) (h : Gm L κ R I) (hx : x ∈ L) (hkx : κ x = 12) (ha : R x 14 = some a) (ho : ∀ c, c ≠ a → ∀ j, I2 c j = I c j) (hh : ∀ j, j < 72 ∨ 149 ≤ j → I2 a j = I a j) (hg : Gs (I a) (fun i => I2 a (72 + i))) : Gm L κ R I2 := by
  refine ⟨h.1, ?_⟩
  intro y hy hk a' s k nd rw h1 h2 h3 h4 h5
  have exy := h.1 y hy x hx hk hkx
  subst exy
  rw [ha] at h1; cases h1
  obtain ⟨a1, a2, a3⟩ := rw_in W9 hx hkx (k := 14) (t := 14) (n := 389) rfl (by decide) ha
  obtain ⟨-, b2, -⟩ := rw_in W9 hy hk (k := 17) (t := 14) (n := 600) rfl (by decide) h2
  obtain ⟨-, c2, -⟩ := rw_in W9 hy hk (k := 16) (t := 14) (n := 778) rfl (by decide) h3
  obtain ⟨-, d2, -⟩ := rw_in W9 hy hk (k := 46) (t := 14) (n := 240) rfl (by decide) h4
  obtain ⟨-, e2, -⟩ := rw_in W9 hy hk (k := 42) (t := 14) (n := 160) rfl (by decide) h5
  have ry : ro_ κ ow y = 12 := ro_o hk (by decide)
  have nr : ∀ {c rc : Nat}, ro_ κ ow c = rc → rc ≠ 834 → c ≠ a := fun h1 h2 q => h2 (by rw [← h1, q, a2])
  have eb : I2 s = I s := funext fun i => ho s (nr b2 (by decide)) i
  have ec : I2 k = I k := funext fun i => ho k (nr c2 (by decide)) i
  have ed : I2 nd = I nd := funext fun i => ho nd (nr d2 (by decide)) i
  have ee : I2 rw = I rw := funext fun i => ho rw (nr e2 (by decide)) i
  obtain ⟨g1, g2, g3, g4, g5, g6, g7⟩ := h.2 y hy hk a s k nd rw ha h2 h3 h4 h5
  unfold Fc_
  rw [eb, ec, ed, ee, ho y (nr ry (by decide)) 23, ho y (nr ry (by decide)) 44]
  exact ⟨gs_ext hg (fun p hp => hh _ (by omega)) (fun i _ => rfl), fun j hj => gs_ext (g2 j hj) (fun p hp => hh _ (by omega)) (fun i _ => rfl), g3, tr_ext g4 (fun j hj => hh _ (by omega)), g5, g6, g7⟩
theorem gm_gs (W9 : ∀ a ∈ L, Shp L κ ln R ow a) (h : Gm L κ R I) (hx : x ∈ L) (hkx : κ x = 12) (ha : R x 14 = some a) : Gs (I a) (fun i => I a (72 + i)) := by
  obtain ⟨s, h2, -⟩ := shp_a (W9 x hx) hkx 17 14 600 rfl (by decide)
  obtain ⟨k, h3, -⟩ := shp_a (W9 x hx) hkx 16 14 778 rfl (by decide)
  obtain ⟨nd, h4, -⟩ := shp_a (W9 x hx) hkx 46 14 240 rfl (by decide)
  obtain ⟨rw, h5, -⟩ := shp_a (W9 x hx) hkx 42 14 160 rfl (by decide)
  exact (h.2 x hx hkx a s k nd rw ha h2 h3 h4 h5).1
/-- k places from o2 on of b are copied into a from o1 on -/
def cpn_ (I : Nat → Nat → Int32) (b a o2 o1 k : Nat) : Nat → Nat → Int32 := fun c j => if c = a ∧ o1 ≤ j ∧ j < o1 + k then I b (o2 + (j - o1)) else I c j
theorem cpn_0 {o2 o1 : Nat} : I = cpn_ I b a o2 o1 0 := by
  funext c j; unfold cpn_; rw [if_neg (by omega)]
theorem cpn_s {o2 o1 k n m : Nat} {z : Int32} (h : I1 = cpn_ I b a o2 o1 k) (hz : I1 b n = z) (e : I2 = u2_ I1 a m z) (hn : n = o2 + k) (hm : m = o1 + k) (hb : b ≠ a ∨ o1 + k ≤ o2 + k ∨ o2 + k < o1) : I2 = cpn_ I b a o2 o1 (k + 1) := by
  have hz2 : I b (o2 + k) = z := by
    rw [← hz, h, hn]; unfold cpn_
    by_cases q : b = a ∧ o1 ≤ o2 + k ∧ o2 + k < o1 + k
    · exact absurd q.1 (by rcases hb with hb | hb | hb; exact hb; omega; omega)
    · rw [if_neg q]
  funext c j
  rw [e]; unfold u2_ 
  split
  · rename_i q
    unfold cpn_
    rw [if_pos ⟨q.1, by omega, by omega⟩, show o2 + (j - o1) = o2 + k by omega, hz2]
  · rename_i q
    rw [h]; unfold cpn_
    by_cases q2 : c = a ∧ o1 ≤ j ∧ j < o1 + k
    · rw [if_pos q2, if_pos ⟨q2.1, q2.2.1, by omega⟩]
    · rw [if_neg q2, if_neg (fun q3 => q2 ⟨q3.1, q3.2.1, by
        have := q3.2.2
        have : j ≠ m := fun q4 => q ⟨q3.1, q4⟩
        omega⟩)]
theorem cpn_b {o2 o1 c : Nat} (h : c ≠ a) : cpn_ I b a o2 o1 k c j = I c j := by unfold cpn_; rw [if_neg (fun q => h q.1)]
theorem cpn_i {o2 o1 i : Nat} (h : i < k) : cpn_ I b a o2 o1 k a (o1 + i) = I b (o2 + i) := by unfold cpn_; rw [if_pos ⟨rfl, by omega, by omega⟩, show o2 + (o1 + i - o1) = o2 + i by omega]
theorem cpn_o {o2 o1 : Nat} (h : j < o1 ∨ o1 + k ≤ j) : cpn_ I b a o2 o1 k a j = I a j := by unfold cpn_; rw [if_neg (by omega)]
theorem uw_cpn {o2 o1 rb : Nat} (hU : Uw L κ ow I) (hb : b ∈ L) (e : I2 = cpn_ I b a o2 o1 k) (hr : ro_ κ ow a = r) (hrb : ro_ κ ow b = rb) (hz : ∀ i, i < k → (bN r (o1 + i)).1 ≤ (bN rb (o2 + i)).1 ∧ (bN rb (o2 + i)).2 ≤ (bN r (o1 + i)).2) : Uw L κ ow I2 := by
  intro c hc i
  rw [e]; unfold cpn_
  split
  · rename_i q
    have h1 := hU b hb (o2 + (i - o1))
    have h2 := hz (i - o1) (by omega)
    rw [hrb] at h1
    rw [show o1 + (i - o1) = i by omega] at h2
    rw [q.1, hr]
    exact rg_w h1 h2.1 h2.2
  · exact hU c hc i
theorem fq_cpn {o2 o1 : Nat} (hF : Fq L κ ow T I0 I) (e : I2 = cpn_ I b a o2 o1 k) (hr : ro_ κ ow a = r) (h : 13 ≤ r) (ht : r * 100 ∈ T) : Fq L κ ow T I0 I2 := by
  intro c hc i hn
  rw [e]; unfold cpn_
  split
  · rename_i h2
    refine absurd ?_ hn
    rw [h2.1, hr, tg_, if_neg (by omega)]; exact ht
  · exact hF c hc i hn
theorem kp_cn {o2 o1 c : Nat} {w : Int32} (e : I2 = cpn_ I b a o2 o1 k) (hc : κ c ≠ κ a) (h : I c j = w) : I2 c j = w := by
  rw [e, cpn_b (fun q => hc (by rw [q]))]; exact h
theorem iw_put0 (W9 : ∀ a ∈ L, Shp L κ ln R ow a) (h : Iw L κ R ow I) (e : I2 = u2_ I a j 0) (hr : ro_ κ ow a = r) (h0 : (bN r j).1 ≤ 0 ∧ 0 ≤ (bN r j).2) (hs : spw_ (tg_ r j) = false) : Iw L κ R ow I2 :=
  ⟨uw_put0 h.1 e hr h0, gm_of W9 h.2 (fun c hc i q => by
    rw [e]; unfold u2_; split
    · rename_i h2; rw [h2.1, h2.2, hr, hs] at q; cases q
    · rfl)⟩
theorem ix_ne {a b : Int} {i : Int32} {c : Nat} (h : Rg a b i) (h1 : 0 ≤ a ∧ ((c : Int) < a ∨ b < (c : Int))) : c ≠ i.toNatClampNeg := by
  have e := ix_n h h1.1; have := h.1; have := h.2; omega
theorem kn_k {c d p q : Nat} (h1 : κ c = p) (h2 : κ d = q) (h : p ≠ q) : c ≠ d := fun e => h (by rw [← h1, ← h2, e])
/-- the reading goes on: nothing was read, or the place behind is no less, and greater where a token was read -/
def Ps_ (x : Nat) (I I2 : Nat → Nat → Int32) : Prop := (I x 5).toInt ≤ (I2 x 5).toInt ∧ (2 ≤ (I2 x 7).toInt → (I x 5).toInt < (I2 x 5).toInt)
def Pg_ (x : Nat) (I I2 : Nat → Nat → Int32) : Prop := (I2 x 5 = I x 5 ∧ I2 x 7 = I x 7) ∨ Ps_ x I I2
theorem pg_rf : Pg_ x I I := Or.inl ⟨rfl, rfl⟩
theorem pg_s (h : Ps_ x I I2) : Pg_ x I I2 := Or.inr h
theorem ps_t2 (h : Pg_ x I I1) (h2 : Ps_ x I1 I2) : Ps_ x I I2 := by
  rcases h with h | h
  · unfold Ps_ at *; rw [← h.1]; exact h2
  · unfold Ps_ at *; exact ⟨by omega, by omega⟩
theorem ps_t1 (h : Ps_ x I I1) (h2 : Pg_ x I1 I2) : Ps_ x I I2 := by
  rcases h2 with h2 | h2
  · unfold Ps_ at *; rw [h2.1, h2.2]; exact h
  · unfold Ps_ at *; exact ⟨by omega, by omega⟩
theorem pg_t (h : Pg_ x I I1) (h2 : Pg_ x I1 I2) : Pg_ x I I2 := by
  rcases h2 with h2 | h2
  · unfold Pg_ Ps_ at *; rw [h2.1, h2.2]; exact h
  · exact Or.inr (ps_t2 h h2)
theorem ps_u {c i : Nat} (h : Ps_ x I I1) (e : I2 = u2_ I1 c i v) (h5 : x ≠ c ∨ 5 ≠ i) (h7 : x ≠ c ∨ 7 ≠ i) : Ps_ x I I2 := by
  have q5 : I2 x 5 = I1 x 5 := by rw [e]; rcases h5 with h | h; exact u2_b h; exact u2_j h
  have q7 : I2 x 7 = I1 x 7 := by rw [e]; rcases h7 with h | h; exact u2_b h; exact u2_j h
  unfold Ps_ at *; rw [q5, q7]; exact h
theorem pg_u {c i : Nat} (h : Pg_ x I I1) (e : I2 = u2_ I1 c i v) (h5 : x ≠ c ∨ 5 ≠ i) (h7 : x ≠ c ∨ 7 ≠ i) : Pg_ x I I2 := by
  have q5 : I2 x 5 = I1 x 5 := by rw [e]; rcases h5 with h | h; exact u2_b h; exact u2_j h
  have q7 : I2 x 7 = I1 x 7 := by rw [e]; rcases h7 with h | h; exact u2_b h; exact u2_j h
  unfold Pg_ Ps_ at *; rw [q5, q7]; exact h
theorem ps_fq (h : Ps_ x I I1) (hF : Fq L κ ow T I1 I2) (hx : x ∈ L) (hk : κ x = 12) (h5 : 1205 ∉ T) (h7 : 1207 ∉ T) : Ps_ x I I2 := by
  have q5 := fq_at (j := 5) hF hx hk (by decide) h5 rfl
  have q7 := fq_at (j := 7) hF hx hk (by decide) h7 rfl
  unfold Ps_ at *; rw [q5, q7]; exact h
theorem pg_fq (h : Pg_ x I I1) (hF : Fq L κ ow T I1 I2) (hx : x ∈ L) (hk : κ x = 12) (h5 : 1205 ∉ T) (h7 : 1207 ∉ T) : Pg_ x I I2 := by
  have q5 := fq_at (j := 5) hF hx hk (by decide) h5 rfl
  have q7 := fq_at (j := 7) hF hx hk (by decide) h7 rfl
  unfold Pg_ Ps_ at *; rw [q5, q7]; exact h
theorem ps_mk {t0 z kv : Int32} (h0 : I x 5 = t0) (h1 : I2 x 5 = z) (h2 : I2 x 7 = kv) (h3 : t0.toInt ≤ z.toInt) (h4 : t0.toInt < z.toInt ∨ kv.toInt ≤ 1) : Ps_ x I I2 := by
  unfold Ps_; rw [h0, h1, h2]; exact ⟨h3, by omega⟩
theorem cm_4 {z v : Int32} {k : Int} (h1 : I2 x 2 = z) (h0 : I x 2 = v) (h : z.toInt = v.toInt + k) : (I2 x 2).toInt = (I x 2).toInt + k := by rw [h1, h0]; exact h
theorem cm_x {v : Int32} {a b k : Int} (lo hi : Int) (e : (I2 x 2).toInt = (I x 2).toInt + k) (hv : I x 2 = v) (hr : Rg a b v) (h1 : lo = a + k) (h2 : hi = b + k) : ∃ z, I2 x 2 = z ∧ Rg lo hi z ∧ z.toInt = v.toInt + k := ⟨_, rfl, by rw [hv] at e; unfold Rg at *; omega, by rw [e, hv]⟩
theorem rg_der {x z : Int32} {a b c d k lo hi : Int} (t : z.toInt = x.toInt + k) (hz : Rg a b z) (hx : Rg c d x) (h1 : lo ≤ c ∨ lo ≤ a - k) (h2 : d ≤ hi ∨ b - k ≤ hi) : Rg lo hi x := by unfold Rg at *; omega
end GSW
section ROWS60
variable {p : Program} {l : Launch} {e : Env} {Rm : Room} {s : State} {m : MethodId} {args : Array Value} {below : List Frame} {meth : Method} {c : Code} {cells slots : Nat} {Q : State → Prop}
variable {cc : ByteArray} {pc nL : Nat} {own : String} {D : va_G} {cy : Nat → ClassId} {A : Nat → Prop} {H0 : Heap} {L : List Nat} {κ ln : Nat → Nat} {R : Nat → Nat → Option Nat} {I : Nat → Nat → Int32} {J : Nat → Nat → Int64} {lo lo2 : List (Nat × Value)} {st : List Value}
theorem g_ldc2 (C : CallFix p m c cc nL s args GT own) {idx : Nat} {v : Int64} (hc : Cond.constantLong own idx v ∈ GT) (hd : decode cc pc = .ok (.ldc2_w idx, 3)) (kk : WG p l e Rm s m args below meth c nL cells slots Q D cy A H0 L κ ln R I J (pc + 3) lo (.long v :: st)) : WG p l e Rm s m args below meth c nL cells slots Q D cy A H0 L κ ln R I J pc lo st := fun H locs ls hP hS hl => lv_ldc2 C.1 C.2.1 C.2.2.2.1 (C.2.2.2.2 _ hc) hd (kk H locs ls hP hS hl)
end ROWS60
theorem kl_128 : Cond.constantLong "SecondHelpingsModel" 128 27 ∈ GT := gt_in 1539 (by decide +kernel) (by decide +kernel)
theorem kl_130 : Cond.constantLong "SecondHelpingsModel" 130 96 ∈ GT := gt_in 1540 (by decide +kernel) (by decide +kernel)
