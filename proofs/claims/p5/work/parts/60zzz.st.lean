/-- without what can be undone -/
def Fc0_ (I : Nat → Nat → Int32) (a k nd rw x : Nat) : Prop := Gs (I a) (fun i => I a (72 + i)) ∧ (∀ q, q < 2 → Gs (fun i => I k (389 * q + i)) (fun i => I k (389 * q + 72 + i))) ∧ Tr (fun j => I a (149 + j)) ∧ (∀ q, q < 2 → Tr (fun j => I k (389 * q + 149 + j))) ∧ Tr (fun j => I nd j) ∧ (∀ j : Nat, (j : Int) < (I x 44).toInt → 0 ≤ (I rw (4 * j + 2)).toInt)
def Fc1_ (I : Nat → Nat → Int32) (k nd rw x : Nat) : Prop := (∀ q, q < 2 → Gs (fun i => I k (389 * q + i)) (fun i => I k (389 * q + 72 + i))) ∧ (∀ q, q < 2 → Tr (fun j => I k (389 * q + 149 + j))) ∧ Tr (fun j => I nd j) ∧ (∀ j : Nat, (j : Int) < (I x 44).toInt → 0 ≤ (I rw (4 * j + 2)).toInt)
def Gm0 (L : List Nat) (κ : Nat → Nat) (R : Nat → Nat → Option Nat) (I : Nat → Nat → Int32) : Prop := (∀ x ∈ L, ∀ y ∈ L, κ x = 12 → κ y = 12 → x = y) ∧ ∀ x ∈ L, κ x = 12 → ∀ a k nd rw, R x 14 = some a → R x 16 = some k → R x 46 = some nd → R x 42 = some rw → Fc0_ I a k nd rw x
def Gm1 (L : List Nat) (κ : Nat → Nat) (R : Nat → Nat → Option Nat) (I : Nat → Nat → Int32) : Prop := (∀ x ∈ L, ∀ y ∈ L, κ x = 12 → κ y = 12 → x = y) ∧ ∀ x ∈ L, κ x = 12 → ∀ k nd rw, R x 16 = some k → R x 46 = some nd → R x 42 = some rw → Fc1_ I k nd rw x
def Iw0 (L : List Nat) (κ : Nat → Nat) (R : Nat → Nat → Option Nat) (ow : Nat → Nat × Nat) (I : Nat → Nat → Int32) : Prop := Uw L κ ow I ∧ Gm0 L κ R I
def Iw1 (L : List Nat) (κ : Nat → Nat) (R : Nat → Nat → Option Nat) (ow : Nat → Nat × Nat) (I : Nat → Nat → Int32) : Prop := Uw L κ ow I ∧ Gm1 L κ R I
section STW
variable {L : List Nat} {κ ln : Nat → Nat} {R : Nat → Nat → Option Nat} {ow : Nat → Nat × Nat} {I I1 I2 I3 I4 I5 I0 : Nat → Nat → Int32} {a b c j r rb x k t ci n m o1 o2 : Nat} {v v1 v2 w : Int32} {lo hi : Int} {T T2 : List Nat}
/-- nothing can be undone any more -/
theorem iw_z (W9 : ∀ a ∈ L, Shp L κ ln R ow a) (h : Iw0 L κ R ow I) (hU : Uw L κ ow I2) (hx : x ∈ L) (hk : κ x = 12) (e : I2 = u2_ I x 23 0) : Iw L κ R ow I2 :=
  ⟨hU, h.2.1, fun y hy hky a s k nd rw h1 h2 h3 h4 h5 => by
    have exy := h.2.1 y hy x hx hky hk
    subst exy
    obtain ⟨r0, r1, r2, r3, r4, r5⟩ := rl_ W9 hx hk h1 h2 h3 h4 h5
    obtain ⟨g1, g3, g4, g5, g6, g7⟩ := h.2.2 y hy hky a k nd rw h1 h3 h4 h5
    have ea : I2 a = I a := funext fun i => by rw [e, u2_b (ne_ro r1 r0 (by decide))]
    have eb : I2 s = I s := funext fun i => by rw [e, u2_b (ne_ro r2 r0 (by decide))]
    have ec : I2 k = I k := funext fun i => by rw [e, u2_b (ne_ro r3 r0 (by decide))]
    have ed : I2 nd = I nd := funext fun i => by rw [e, u2_b (ne_ro r4 r0 (by decide))]
    have ee : I2 rw = I rw := funext fun i => by rw [e, u2_b (ne_ro r5 r0 (by decide))]
    unfold Fc_
    rw [ea, eb, ec, ed, ee, show I2 y 44 = I y 44 by rw [e, u2_j (by decide)], show I2 y 23 = 0 by rw [e, u2_s]]
    exact ⟨g1, fun j hj => by rw [show (0 : Int32).toInt = 0 from by decide] at hj; omega, g3, g4, g5, g6, g7⟩⟩
/-- an image comes back -/
theorem iw_rs (W9 : ∀ a ∈ L, Shp L κ ln R ow a) (h : Iw L κ R ow I) (hU : Uw L κ ow I2) (hx : x ∈ L) (hk : κ x = 12) {a k q0 : Nat} (ha : R x 14 = some a) (hkk : R x 16 = some k) (hq : q0 < 2) (e1 : I2 = cpn_ I k a (389 * q0) 0 389) : Iw0 L κ R ow I2 :=
  ⟨hU, h.2.1, fun y hy hky a' k' nd rw h1 h3 h4 h5 => by
    have exy := h.2.1 y hy x hx hky hk
    subst exy
    rw [ha] at h1; cases h1; rw [hkk] at h3; cases h3
    obtain ⟨s, h2, -⟩ := shp_a (W9 y hy) hk 17 14 600 rfl (by decide)
    obtain ⟨r0, r1, r2, r3, r4, r5⟩ := rl_ W9 hx hk ha h2 hkk h4 h5
    obtain ⟨g1, g2, g3, g4, g5, g6, g7⟩ := h.2.2 y hy hky a s k nd rw ha h2 hkk h4 h5
    have ec : I2 k = I k := funext fun i => by rw [e1, cpn_b (ne_ro r3 r1 (by decide))]
    have ed : I2 nd = I nd := funext fun i => by rw [e1, cpn_b (ne_ro r4 r1 (by decide))]
    have ee : I2 rw = I rw := funext fun i => by rw [e1, cpn_b (ne_ro r5 r1 (by decide))]
    have e44 : I2 y 44 = I y 44 := by rw [e1, cpn_b (ne_ro r0 r1 (by decide))]
    have in1 : ∀ i, i < 389 → I2 a i = I k (389 * q0 + i) := fun i hi => by
      have := cpn_i (I := I) (b := k) (a := a) (o2 := 389 * q0) (o1 := 0) hi
      rw [Nat.zero_add] at this
      rw [e1, this]
    unfold Fc0_
    rw [ec, ed, ee, e44]
    exact ⟨gs_ext (g3 q0 hq) (fun p hp => in1 _ (by omega)) (fun i hi => by rw [in1 _ (by omega), show 389 * q0 + (72 + i) = 389 * q0 + 72 + i by omega]), g3, tr_ext (g5 q0 hq) (fun i hi => by rw [in1 _ (by omega), show 389 * q0 + (149 + i) = 389 * q0 + 149 + i by omega]), g5, g6, g7⟩⟩
/-- a head is taken over -/
theorem iw_hd (W9 : ∀ a ∈ L, Shp L κ ln R ow a) (h : Iw L κ R ow I) (hU : Uw L κ ow I2) (hx : x ∈ L) (hk : κ x = 12) {a b : Nat} (ha : R x 14 = some a) (e1 : I2 = cpn_ I b a 0 0 72) : Iw1 L κ R ow I2 :=
  ⟨hU, h.2.1, fun y hy hky k nd rw h3 h4 h5 => by
    have exy := h.2.1 y hy x hx hky hk
    subst exy
    obtain ⟨s, h2, -⟩ := shp_a (W9 y hy) hk 17 14 600 rfl (by decide)
    obtain ⟨r0, r1, r2, r3, r4, r5⟩ := rl_ W9 hx hk ha h2 h3 h4 h5
    obtain ⟨g1, g2, g3, g4, g5, g6, g7⟩ := h.2.2 y hy hky a s k nd rw ha h2 h3 h4 h5
    have ec : I2 k = I k := funext fun i => by rw [e1, cpn_b (ne_ro r3 r1 (by decide))]
    have ed : I2 nd = I nd := funext fun i => by rw [e1, cpn_b (ne_ro r4 r1 (by decide))]
    have ee : I2 rw = I rw := funext fun i => by rw [e1, cpn_b (ne_ro r5 r1 (by decide))]
    have e44 : I2 y 44 = I y 44 := by rw [e1, cpn_b (ne_ro r0 r1 (by decide))]
    unfold Fc1_
    rw [ec, ed, ee, e44]
    exact ⟨g3, g5, g6, g7⟩⟩
/-- k places from o1 on are nought -/
def fil_ (I : Nat → Nat → Int32) (a o1 k : Nat) : Nat → Nat → Int32 := fun c j => if c = a ∧ o1 ≤ j ∧ j < o1 + k then 0 else I c j
theorem fil_0 {o1 : Nat} : I = fil_ I a o1 0 := by funext c j; unfold fil_; rw [if_neg (by omega)]
theorem fil_s {o1 k m : Nat} (h : I1 = fil_ I a o1 k) (e : I2 = u2_ I1 a m 0) (hm : m = o1 + k) : I2 = fil_ I a o1 (k + 1) := by
  funext c j
  rw [e, h]; unfold u2_ fil_
  by_cases q : c = a ∧ j = m
  · rw [if_pos q, if_pos ⟨q.1, by omega, by omega⟩]
  · rw [if_neg q]
    by_cases q2 : c = a ∧ o1 ≤ j ∧ j < o1 + k
    · rw [if_pos q2, if_pos ⟨q2.1, q2.2.1, by omega⟩]
    · rw [if_neg q2, if_neg (fun q3 => q2 ⟨q3.1, q3.2.1, by
        have : j ≠ m := fun q4 => q ⟨q3.1, q4⟩
        omega⟩)]
theorem fil_b {o1 : Nat} (h : c ≠ a) : fil_ I a o1 k c j = I c j := by unfold fil_; rw [if_neg (fun q => h q.1)]
theorem fil_i {o1 : Nat} (h : o1 ≤ j ∧ j < o1 + k) : fil_ I a o1 k a j = 0 := by unfold fil_; rw [if_pos ⟨rfl, h.1, h.2⟩]
theorem fil_o {o1 : Nat} (h : j < o1 ∨ o1 + k ≤ j) : fil_ I a o1 k a j = I a j := by unfold fil_; rw [if_neg (by omega)]
theorem uw_fil {o1 : Nat} (hU : Uw L κ ow I) (e : I2 = fil_ I a o1 k) (hr : ro_ κ ow a = 834) : Uw L κ ow I2 := by
  intro c hc i
  rw [e]; unfold fil_
  split
  · rename_i q
    rw [q.1, hr]; exact z0_in i
  · exact hU c hc i
theorem fq_fil {o1 : Nat} (hF : Fq L κ ow T I0 I) (e : I2 = fil_ I a o1 k) (hr : ro_ κ ow a = r) (h : 13 ≤ r) (ht : r * 100 ∈ T) : Fq L κ ow T I0 I2 := by
  intro c hc i hn
  rw [e]; unfold fil_
  split
  · rename_i h2
    refine absurd ?_ hn
    rw [h2.1, hr, tg_, if_neg (by omega)]; exact ht
  · exact hF c hc i hn
theorem kp_fi {o1 : Nat} (e : I2 = fil_ I a o1 k) (hc : κ c ≠ κ a) (h : I c j = w) : I2 c j = w := by rw [e, fil_b (fun q => hc (by rw [q]))]; exact h
/-- a table begins -/
theorem iw_st (W9 : ∀ a ∈ L, Shp L κ ln R ow a) (h : Iw1 L κ R ow I) (hU : Uw L κ ow I3) (hx : x ∈ L) (hk : κ x = 12) {a : Nat} (ha : R x 14 = some a) (e1 : I1 = fil_ I a 72 317) (e2 : I2 = cpn_ I1 a a 18 78 6) (e3 : I3 = cpn_ I2 a a 30 105 42) : Iw0 L κ R ow I3 :=
  ⟨hU, h.2.1, fun y hy hky a' k nd rw h1 h3 h4 h5 => by
    have exy := h.2.1 y hy x hx hky hk
    subst exy
    rw [ha] at h1; cases h1
    obtain ⟨s, h2, -⟩ := shp_a (W9 y hy) hk 17 14 600 rfl (by decide)
    obtain ⟨r0, r1, r2, r3, r4, r5⟩ := rl_ W9 hx hk ha h2 h3 h4 h5
    obtain ⟨aL, -, -⟩ := rw_in W9 hx hk (k := 14) (t := 14) (n := 389) rfl (by decide) ha
    obtain ⟨g3, g5, g6, g7⟩ := h.2.2 y hy hky k nd rw h3 h4 h5
    have eo : ∀ c, c ≠ a → I3 c = I c := fun c hc => funext fun i => by rw [e3, cpn_b hc, e2, cpn_b hc, e1, fil_b hc]
    have hd : ∀ j, j < 72 → I3 a j = I a j := fun j hj => by rw [e3, cpn_o (by omega), e2, cpn_o (by omega), e1, fil_o (by omega)]
    have pt : ∀ d, d < 6 → I3 a (78 + d) = I a (18 + d) := fun d hd => by rw [e3, cpn_o (by omega), e2, cpn_i hd, e1, fil_o (by omega)]
    have pl : ∀ i, i < 42 → I3 a (105 + i) = I a (30 + i) := fun i hi => by rw [e3, cpn_i hi, e2, cpn_o (by omega), e1, fil_o (by omega)]
    have ze : ∀ j, 72 ≤ j → j < 389 → (j < 78 ∨ 84 ≤ j) → (j < 105 ∨ 147 ≤ j) → I3 a j = 0 := fun j a1 a2 a3 a4 => by rw [e3, cpn_o (by omega), e2, cpn_o (by omega), e1, fil_i (by omega)]
    have b18 : ∀ d, d < 6 → (I a (18 + d)).toInt ≤ 99 := fun d hd => by
      have q := h.1 a aL (18 + d)
      rw [r1, show bN 834 (18 + d) = (0, 99) from bn_834.trans (zq_18 (by omega))] at q; exact q.2
    have b30 : ∀ i, i < 42 → (I a (30 + i)).toInt ≤ 40 := fun i hi => by
      have q := h.1 a aL (30 + i)
      rw [r1, show bN 834 (30 + i) = (0, 40) from bn_834.trans (zq_30 (by omega))] at q; exact q.2
    have b4 : ∀ p, p < 7 → 0 ≤ (I a (4 + p)).toInt := fun p hp => by
      have q := h.1 a aL (4 + p)
      rw [r1, show bN 834 (4 + p) = (0, 20) from bn_834.trans (zq_4 (by omega))] at q; exact q.1
    unfold Fc0_
    rw [eo k (ne_ro r3 r1 (by decide)), eo nd (ne_ro r4 r1 (by decide)), eo rw (ne_ro r5 r1 (by decide)), show I3 y 44 = I y 44 from congrFun (eo y (ne_ro r0 r1 (by decide))) 44]
    refine ⟨⟨fun p hp => ?_, fun d hd2 => ?_⟩, g3, fun q hq => ?_, g5, g6, g7⟩
    · show (I3 a (72 + (19 + p))).toInt ≤ _
      rw [ze _ (by omega) (by omega) (by omega) (by omega), hd _ (by omega)]; exact b4 p hp
    · unfold wd_
      show (I3 a (72 + (6 + d))).toInt + (I3 a (72 + (33 + d))).toInt + (I3 a (72 + (39 + d))).toInt + (I3 a (72 + (45 + d))).toInt + (I3 a (72 + (51 + d))).toInt + (I3 a (72 + (57 + d))).toInt + (I3 a (72 + (63 + d))).toInt + (I3 a (72 + (69 + d))).toInt ≤ 379
      have z0 := b18 d hd2
      have q0 := pl (0 + d) (by omega); have q1 := pl (6 + d) (by omega); have q2 := pl (12 + d) (by omega); have q3 := pl (18 + d) (by omega); have q4 := pl (24 + d) (by omega); have q5 := pl (30 + d) (by omega); have q6 := pl (36 + d) (by omega)
      have z1 := b30 (0 + d) (by omega); have z2 := b30 (6 + d) (by omega); have z3 := b30 (12 + d) (by omega); have z4 := b30 (18 + d) (by omega); have z5 := b30 (24 + d) (by omega); have z6 := b30 (30 + d) (by omega); have z7 := b30 (36 + d) (by omega)
      rw [show 72 + (6 + d) = 78 + d by omega, pt d hd2, show 72 + (33 + d) = 105 + (0 + d) by omega, q0, show 72 + (39 + d) = 105 + (6 + d) by omega, q1, show 72 + (45 + d) = 105 + (12 + d) by omega, q2, show 72 + (51 + d) = 105 + (18 + d) by omega, q3, show 72 + (57 + d) = 105 + (24 + d) by omega, q4, show 72 + (63 + d) = 105 + (30 + d) by omega, q5, show 72 + (69 + d) = 105 + (36 + d) by omega, q6]
      omega
    · have z : I3 a (149 + 4 * q) = 0 := ze _ (by omega) (by omega) (by omega) (by omega)
      have z' : (fun j => I3 a (149 + j)) (4 * q) = 0 := z
      exact ⟨fun h => absurd h (by rw [z']; decide), fun h => absurd h (by rw [z']; decide), fun h => absurd h (by rw [z']; decide)⟩⟩
/-- the first k of two rows are changed for each other -/
def swp_ (I : Nat → Nat → Int32) (a b k : Nat) : Nat → Nat → Int32 := fun c j => if c = a ∧ 72 ≤ j ∧ j < 72 + k then I b (j - 72) else if c = b ∧ j < k then I a (72 + j) else I c j
theorem swp_0 : I = swp_ I a b 0 := by funext c j; unfold swp_; rw [if_neg (by omega), if_neg (by omega)]
theorem swp_s {n1 n2 n3 : Nat} {z y : Int32} (h : I1 = swp_ I a b k) (hab : a ≠ b) (hy : I1 a n1 = y) (hz : I1 b n2 = z) (e : I2 = u2_ I1 a n1 z) (e2 : I3 = u2_ I2 b n3 y) (h1 : n1 = 72 + k) (h2 : n2 = k) (h3 : n3 = k) : I3 = swp_ I a b (k + 1) := by
  have y1 : I a (72 + k) = y := by rw [← hy, h, h1]; unfold swp_; rw [if_neg (by omega), if_neg (fun q => hab q.1)]
  have z1 : I b k = z := by rw [← hz, h, h2]; unfold swp_; rw [if_neg (fun q => hab q.1.symm), if_neg (by omega)]
  funext c j
  rw [e2]; unfold u2_
  by_cases q1 : c = b ∧ j = n3
  · rw [if_pos q1]; unfold swp_; rw [if_neg (fun q => hab (q.1.symm.trans q1.1)), if_pos ⟨q1.1, by omega⟩, ← y1, show j = k by omega]
  · rw [if_neg q1, e]; unfold u2_
    by_cases q2 : c = a ∧ j = n1
    · rw [if_pos q2]; unfold swp_; rw [if_pos ⟨q2.1, by omega, by omega⟩, ← z1, show j - 72 = k by omega]
    · rw [if_neg q2, h]; unfold swp_
      by_cases q3 : c = a ∧ 72 ≤ j ∧ j < 72 + k
      · rw [if_pos q3, if_pos ⟨q3.1, q3.2.1, by omega⟩]
      · have n1' : ¬ (c = a ∧ 72 ≤ j ∧ j < 72 + (k + 1)) := fun q => q3 ⟨q.1, q.2.1, by
          have : j ≠ n1 := fun q9 => q2 ⟨q.1, q9⟩
          omega⟩
        rw [if_neg q3]
        by_cases q4 : c = b ∧ j < k
        · rw [if_pos q4, if_neg n1', if_pos ⟨q4.1, by omega⟩]
        · rw [if_neg q4, if_neg n1', if_neg (fun q => q4 ⟨q.1, by
            have : j ≠ n3 := fun q9 => q1 ⟨q.1, q9⟩
            omega⟩)]
theorem kp_sw (e : I2 = swp_ I a b k) (h1 : κ c ≠ κ a) (h2 : κ c ≠ κ b) (h : I c j = w) : I2 c j = w := by
  rw [e]; unfold swp_; rw [if_neg (fun q => h1 (by rw [q.1])), if_neg (fun q => h2 (by rw [q.1]))]; exact h
theorem uw_swp (hU : Uw L κ ow I) (aL : a ∈ L) (bL : b ∈ L) (e : I2 = swp_ I a b k) (ra : ro_ κ ow a = 834) (rb : ro_ κ ow b = 838) : Uw L κ ow I2 := by
  intro c hc i
  rw [e]; unfold swp_
  split
  · rename_i q
    have h1 := hU b bL (i - 72)
    rw [rb, bn_838, show 72 + (i - 72) = i by omega] at h1
    rw [q.1, ra, bn_834]; exact h1
  · split
    · rename_i q
      have h1 := hU a aL (72 + i)
      rw [ra, bn_834] at h1
      rw [q.1, rb, bn_838]; exact h1
    · exact hU c hc i
theorem fq_swp (hF : Fq L κ ow T I0 I) (e : I2 = swp_ I a b k) (ra : ro_ κ ow a = 834) (rb : ro_ κ ow b = 838) (h1 : 83400 ∈ T) (h2 : 83800 ∈ T) : Fq L κ ow T I0 I2 := by
  intro c hc i hn
  rw [e]; unfold swp_
  split
  · rename_i q
    refine absurd ?_ hn
    rw [q.1, ra]; exact h1
  · split
    · rename_i q
      refine absurd ?_ hn
      rw [q.1, rb]; exact h2
    · exact hF c hc i hn
theorem iw_sw (W9 : ∀ a ∈ L, Shp L κ ln R ow a) (h : Iw L κ R ow I) (hU : Uw L κ ow I2) (hx : x ∈ L) (hk : κ x = 12) (ha : R x 14 = some a) (hb : R x 18 = some b) (e : I2 = swp_ I a b 75) (hga : Ga_ R x I) : Iw L κ R ow I2 ∧ Ga_ R x I2 := by
  obtain ⟨-, a2, -⟩ := rw_in W9 hx hk (k := 14) (t := 14) (n := 389) rfl (by decide) ha
  obtain ⟨-, b2, -⟩ := rw_in W9 hx hk (k := 18) (t := 14) (n := 75) rfl (by decide) hb
  have hab : a ≠ b := ne_ro a2 b2 (by decide)
  have hd : ∀ j, j < 72 ∨ 147 ≤ j → I2 a j = I a j := fun j hj => by rw [e]; unfold swp_; rw [if_neg (by omega), if_neg (fun q => hab q.1)]
  have na : ∀ i, i < 75 → I2 a (72 + i) = I b (0 + i) := fun i hi => by rw [e]; unfold swp_; rw [if_pos ⟨rfl, by omega, by omega⟩]; congr 1; omega
  have nb : ∀ i, i < 75 → I2 b (0 + i) = I a (72 + i) := fun i hi => by rw [e]; unfold swp_; rw [if_neg (fun q => hab q.1.symm), if_pos ⟨rfl, by omega⟩, Nat.zero_add]
  have out : ∀ c, c ≠ a → c ≠ b → I2 c = I c := fun c h1 h2 => funext fun j => by rw [e]; unfold swp_; rw [if_neg (fun q => h1 q.1), if_neg (fun q => h2 q.1)]
  have G0 := gm_gs W9 h.2 hx hk ha
  refine ⟨⟨hU, gm_mk h.2 hx hk (fun a' s k nd rw h1 h2 h3 h4 h5 F => ?_)⟩, fun a' s h1 h2 => ?_⟩
  · rw [ha] at h1; cases h1
    obtain ⟨r0, r1, r2, r3, r4, r5⟩ := rl_ W9 hx hk ha h2 h3 h4 h5
    obtain ⟨g1, g2, g3, g4, g5, g6, g7⟩ := F
    unfold Fc_
    rw [out s (ne_ro r2 r1 (by decide)) (ne_ro r2 b2 (by decide)), out k (ne_ro r3 r1 (by decide)) (ne_ro r3 b2 (by decide)), out nd (ne_ro r4 r1 (by decide)) (ne_ro r4 b2 (by decide)), out rw (ne_ro r5 r1 (by decide)) (ne_ro r5 b2 (by decide)), show I2 x 23 = I x 23 from congrFun (out x (ne_ro r0 r1 (by decide)) (ne_ro r0 b2 (by decide))) 23, show I2 x 44 = I x 44 from congrFun (out x (ne_ro r0 r1 (by decide)) (ne_ro r0 b2 (by decide))) 44]
    exact ⟨gs_ext (hga a b ha hb) (fun p hp => hd _ (by omega)) (fun i hi => na i hi), fun j hj => gs_ext (g2 j hj) (fun p hp => hd _ (by omega)) (fun _ _ => rfl), g3, tr_ext g4 (fun j hj => hd _ (by omega)), g5, g6, g7⟩
  · rw [ha] at h1; cases h1; rw [hb] at h2; cases h2
    exact gs_ext G0 (fun p hp => hd _ (by omega)) (fun i hi => nb i hi)
theorem ga_u (W9 : ∀ a ∈ L, Shp L κ ln R ow a) (hx : x ∈ L) (hk : κ x = 12) (h : Ga_ R x I) (e : I2 = u2_ I c n v) (hc : ro_ κ ow c = 12 ∨ (ro_ κ ow c = r ∧ r ≠ 834 ∧ r ≠ 838) ∨ (ro_ κ ow c = 834 ∧ 72 ≤ n)) : Ga_ R x I2 := fun a s h1 h2 => by
  obtain ⟨-, a2, -⟩ := rw_in W9 hx hk (k := 14) (t := 14) (n := 389) rfl (by decide) h1
  obtain ⟨-, b2, -⟩ := rw_in W9 hx hk (k := 18) (t := 14) (n := 75) rfl (by decide) h2
  have es : I2 s = I s := funext fun j => by
    rw [e]
    rcases hc with q | q | q
    · exact u2_b (ne_ro b2 q (by decide))
    · exact u2_b (ne_ro b2 q.1 (Ne.symm q.2.2))
    · exact u2_b (ne_ro b2 q.1 (by decide))
  have ea : ∀ j, j < 72 → I2 a j = I a j := fun j hj => by
    rw [e]
    rcases hc with q | q | q
    · exact u2_b (ne_ro a2 q (by decide))
    · exact u2_b (ne_ro a2 q.1 (Ne.symm q.2.1))
    · exact u2_j (by omega)
  rw [es]
  exact gs_ext (h a s h1 h2) (fun p hp => ea _ (by omega)) (fun _ _ => rfl)
/-- the lines of a book -/
theorem iw_ln (W9 : ∀ a ∈ L, Shp L κ ln R ow a) (h : Iw L κ R ow I) (hU : Uw L κ ow I2) (hx : x ∈ L) (hk : κ x = 12) {rw : Nat} (hr : R x 42 = some rw) (e : I2 = u2_ I x 44 v) (hb : ∀ j : Nat, (j : Int) < v.toInt → (j : Int) < (I x 44).toInt ∨ 0 ≤ (I rw (4 * j + 2)).toInt) : Iw L κ R ow I2 :=
  ⟨hU, gm_mk h.2 hx hk (fun a s k nd rw' h1 h2 h3 h4 h5 F => by
    rw [hr] at h5; cases h5
    obtain ⟨r0, r1, r2, r3, r4, r5⟩ := rl_ W9 hx hk h1 h2 h3 h4 hr
    obtain ⟨g1, g2, g3, g4, g5, g6, g7⟩ := F
    have ea : I2 a = I a := funext fun i => by rw [e, u2_b (ne_ro r1 r0 (by decide))]
    have eb : I2 s = I s := funext fun i => by rw [e, u2_b (ne_ro r2 r0 (by decide))]
    have ec : I2 k = I k := funext fun i => by rw [e, u2_b (ne_ro r3 r0 (by decide))]
    have ed : I2 nd = I nd := funext fun i => by rw [e, u2_b (ne_ro r4 r0 (by decide))]
    have ee : I2 rw = I rw := funext fun i => by rw [e, u2_b (ne_ro r5 r0 (by decide))]
    unfold Fc_
    rw [ea, eb, ec, ed, ee, show I2 x 23 = I x 23 by rw [e, u2_j (by decide)], show I2 x 44 = v by rw [e, u2_s]]
    exact ⟨g1, g2, g3, g4, g5, g6, fun j hj => (hb j hj).elim (g7 j) id⟩)⟩
theorem iw_rw (W9 : ∀ a ∈ L, Shp L κ ln R ow a) (h : Iw L κ R ow I) (hU : Uw L κ ow I2) (hx : x ∈ L) (hk : κ x = 12) {rw : Nat} (hr : R x 42 = some rw) (e : I2 = u2_ I rw n v) {lm : Int32} (hl : I x 44 = lm) (h0 : 0 ≤ lm.toInt) (hn : 4 * lm.toNatClampNeg ≤ n) : Iw L κ R ow I2 :=
  ⟨hU, gm_mk h.2 hx hk (fun a s k nd rw' h1 h2 h3 h4 h5 F => by
    rw [hr] at h5; cases h5
    obtain ⟨r0, r1, r2, r3, r4, r5⟩ := rl_ W9 hx hk h1 h2 h3 h4 hr
    obtain ⟨g1, g2, g3, g4, g5, g6, g7⟩ := F
    have em : (lm.toNatClampNeg : Int) = lm.toInt := by have e : lm.toNatClampNeg = lm.toInt.toNat := rfl
                                                        omega
    have ea : I2 a = I a := funext fun i => by rw [e, u2_b (ne_ro r1 r5 (by decide))]
    have eb : I2 s = I s := funext fun i => by rw [e, u2_b (ne_ro r2 r5 (by decide))]
    have ec : I2 k = I k := funext fun i => by rw [e, u2_b (ne_ro r3 r5 (by decide))]
    have ed : I2 nd = I nd := funext fun i => by rw [e, u2_b (ne_ro r4 r5 (by decide))]
    unfold Fc_
    rw [ea, eb, ec, ed, show I2 x 23 = I x 23 by rw [e, u2_b (ne_ro r0 r5 (by decide))], show I2 x 44 = I x 44 by rw [e, u2_b (ne_ro r0 r5 (by decide))]]
    refine ⟨g1, g2, g3, g4, g5, g6, fun j hj => ?_⟩
    have := g7 j hj
    rw [hl] at hj
    rw [e, u2_j (by omega)]; exact this)⟩
theorem gm_ln (W9 : ∀ a ∈ L, Shp L κ ln R ow a) (h : Gm L κ R I) (hx : x ∈ L) (hk : κ x = 12) {rw : Nat} (hr : R x 42 = some rw) (hj : (j : Int) < (I x 44).toInt) : 0 ≤ (I rw (4 * j + 2)).toInt := by
  obtain ⟨a, h1, -⟩ := shp_a (W9 x hx) hk 14 14 389 rfl (by decide)
  obtain ⟨s, h2, -⟩ := shp_a (W9 x hx) hk 17 14 600 rfl (by decide)
  obtain ⟨k, h3, -⟩ := shp_a (W9 x hx) hk 16 14 778 rfl (by decide)
  obtain ⟨nd, h4, -⟩ := shp_a (W9 x hx) hk 46 14 240 rfl (by decide)
  exact (h.2 x hx hk a s k nd rw h1 h2 h3 h4 hr).2.2.2.2.2.2 j hj
theorem tb_m {n : Nat} (h : 940 < (I x 5).toInt + ((n + 1 : Nat) : Int)) (p1 : Ps_ x I I1) (k4 : (I1 x 7).toInt = 4) (p2 : Pg_ x I1 I2) : 940 < (I2 x 5).toInt + (n : Int) := by
  have q := p1.2 (by omega)
  rcases p2 with p2 | p2
  · rw [p2.1]; omega
  · have := p2.1; omega
theorem bc_st {s z : Int32} (h : Rg 0 127 s) (h0 : ¬ s = 0) (hz : s &&& (s - 1) = z) : (bc_ z).toInt + 1 ≤ (bc_ s).toInt ∧ 0 ≤ (bc_ z).toInt := by
  subst hz
  obtain ⟨n, h1, rfl⟩ := rg_case (m := 127) h
  have : ∀ n : Fin 128, ¬ Int32.ofNat n.1 = 0 → (bc_ (Int32.ofNat n.1 &&& (Int32.ofNat n.1 - 1))).toInt + 1 ≤ (bc_ (Int32.ofNat n.1)).toInt ∧ 0 ≤ (bc_ (Int32.ofNat n.1 &&& (Int32.ofNat n.1 - 1))).toInt := by decide +kernel
  exact this ⟨n, by omega⟩ h0
theorem bc_0 {s : Int32} (h : Rg 0 127 s) : 0 ≤ (bc_ s).toInt ∧ (bc_ s).toInt ≤ 7 := (bc_7 h rfl)
theorem rg_bi {a b : Int} {n s : Int32} (h : Rg a b n) (h2 : n.toInt + (bc_ s).toInt ≤ 7) (h3 : Rg 0 127 s) : Rg a 7 n := by
  have := (bc_0 h3).1
  unfold Rg at *; omega
end STW
section ROWS60E
variable {p : Program} {l : Launch} {e : Env} {Rm : Room} {s : State} {m : MethodId} {args : Array Value} {below : List Frame} {meth : Method} {c : Code} {cells slots : Nat} {Q : State → Prop}
variable {cc : ByteArray} {pc nL : Nat} {own : String} {D : va_G} {cy : Nat → ClassId} {A : Nat → Prop} {H0 : Heap} {L : List Nat} {κ ln : Nat → Nat} {R : Nat → Nat → Option Nat} {I : Nat → Nat → Int32} {J : Nat → Nat → Int64} {lo lo2 : List (Nat × Value)} {st : List Value}
theorem g_lcmpE (C : CallFix p m c cc nL s args GT own) {x y : Int64} (hd : decode cc pc = .ok (.lcmp, 1)) (kk : ∀ z, Rg (-1) 1 z → (z = 0 ↔ x = y) → WG p l e Rm s m args below meth c nL cells slots Q D cy A H0 L κ ln R I J (pc + 1) lo (.int z :: st)) : WG p l e Rm s m args below meth c nL cells slots Q D cy A H0 L κ ln R I J pc lo (.long y :: .long x :: st) := by
  intro H locs ls hP hS hl T hT X
  have hexec := C.1
  have hb := C.2.1
  by_cases c1 : x > y
  · obtain ⟨t, a, b⟩ := kk 1 ⟨by decide, by decide⟩ ⟨fun h => absurd h (by decide), fun h => absurd c1 (by rw [h]; exact Int64.lt_irrefl)⟩ H locs ls hP hS hl T hT X
    refine ⟨t, ?_, b⟩
    jvm_step X.here [X.here.top, hexec, hb, hd, c1]
    exact a
  · by_cases c2 : x = y
    · obtain ⟨t, a, b⟩ := kk 0 ⟨by decide, by decide⟩ ⟨fun _ => c2, fun _ => rfl⟩ H locs ls hP hS hl T hT X
      refine ⟨t, ?_, b⟩
      jvm_step X.here [X.here.top, hexec, hb, hd, c1, c2]
      exact a
    · obtain ⟨t, a, b⟩ := kk (-1) ⟨by decide, by decide⟩ ⟨fun h => absurd h (by decide), fun h => absurd h c2⟩ H locs ls hP hS hl T hT X
      refine ⟨t, ?_, b⟩
      jvm_step X.here [X.here.top, hexec, hb, hd, c1, c2]
      exact a
end ROWS60E
