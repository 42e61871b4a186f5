section CPW
variable {L : List Nat} {κ ln : Nat → Nat} {R : Nat → Nat → Option Nat} {ow : Nat → Nat × Nat} {I I1 I2 I3 I4 I5 I0 : Nat → Nat → Int32} {a b c j r rb x k t ci n m o1 o2 : Nat} {v v1 v2 w : Int32} {lo hi : Int} {T T2 : List Nat}
theorem ne_ro {p q : Nat} (h1 : ro_ κ ow b = p) (h2 : ro_ κ ow a = q) (h : p ≠ q) : b ≠ a := fun e => h (by rw [← h1, ← h2, e])
theorem kp_cm {p q : Nat} (e : I2 = cpn_ I b a o2 o1 k) (h1 : ro_ κ ow c = p) (h2 : ro_ κ ow a = q) (h : p ≠ q) (hc : I c j = w) : I2 c j = w := by rw [e, cpn_b (ne_ro h1 h2 h)]; exact hc
theorem ix_ge {a b : Int} {i : Int32} (h : Rg a b i) (h1 : 72 ≤ a) : 72 ≤ i.toNatClampNeg := by
  have e := ix_n h (by omega); have := h.1; omega
/-- the head of what is now stays -/
def Hd_ (R : Nat → Nat → Option Nat) (x : Nat) (I I2 : Nat → Nat → Int32) : Prop := ∀ a, R x 14 = some a → ∀ j, j < 72 → I2 a j = I a j
theorem hd_rf : Hd_ R x I I := fun _ _ _ _ => rfl
theorem hd_t (h : Hd_ R x I I1) (h2 : Hd_ R x I1 I2) : Hd_ R x I I2 := fun a ha j hj => (h2 a ha j hj).trans (h a ha j hj)
theorem hd_u (W9 : ∀ a ∈ L, Shp L κ ln R ow a) (hx : x ∈ L) (hk : κ x = 12) (h : Hd_ R x I I1) (e : I2 = u2_ I1 c n v) (hc : ro_ κ ow c = 12 ∨ (ro_ κ ow c = r ∧ r ≠ 834) ∨ 72 ≤ n) : Hd_ R x I I2 := fun a ha j hj => by
  obtain ⟨-, a2, -⟩ := rw_in W9 hx hk (k := 14) (t := 14) (n := 389) rfl (by decide) ha
  rw [e, ← h a ha j hj]
  rcases hc with q | q | q
  · exact u2_b (ne_ro a2 q (by decide))
  · exact u2_b (ne_ro a2 q.1 (Ne.symm q.2))
  · exact u2_j (by omega)
theorem hd_c (W9 : ∀ a ∈ L, Shp L κ ln R ow a) (hx : x ∈ L) (hk : κ x = 12) (h : Hd_ R x I I1) (e : I2 = cpn_ I1 b c o2 o1 k) (hc : (ro_ κ ow c = r ∧ r ≠ 834) ∨ 72 ≤ o1) : Hd_ R x I I2 := fun a ha j hj => by
  obtain ⟨-, a2, -⟩ := rw_in W9 hx hk (k := 14) (t := 14) (n := 389) rfl (by decide) ha
  rw [e, ← h a ha j hj]
  rcases hc with q | q
  · exact cpn_b (ne_ro a2 q.1 (Ne.symm q.2))
  · unfold cpn_; rw [if_neg (by omega)]
theorem hd_fq (W9 : ∀ a ∈ L, Shp L κ ln R ow a) (hx : x ∈ L) (hk : κ x = 12) (h : Hd_ R x I I1) (hF : Fq L κ ow T I1 I2) (hT : 83400 ∉ T) : Hd_ R x I I2 := fun a ha j hj => by
  obtain ⟨a1, a2, -⟩ := rw_in W9 hx hk (k := 14) (t := 14) (n := 389) rfl (by decide) ha
  exact fq_ar hF a1 a2 (by decide) hT (h a ha j hj)
/-- a copy into a row of which nothing is held -/
theorem iw_cpo (W9 : ∀ a ∈ L, Shp L κ ln R ow a) (h : Gm L κ R I) (hU : Uw L κ ow I2) (e : I2 = cpn_ I b a o2 o1 k) (hr : ro_ κ ow a = r) (hs : ∀ i, spw_ (tg_ r i) = false) : Iw L κ R ow I2 :=
  ⟨hU, gm_of W9 h (fun c hc i q => by
    rw [e]; unfold cpn_; split
    · rename_i h2; rw [h2.1, hr, hs] at q; cases q
    · rfl)⟩
/-- what lay aside, or was kept, is now -/
theorem iw_set (W9 : ∀ a ∈ L, Shp L κ ln R ow a) (h : Gm L κ R I) (hU : Uw L κ ow I2) (hx : x ∈ L) (hk : κ x = 12) (ha : R x 14 = some a) (e : I2 = cpn_ I b a o2 72 75) (G : Gs (I a) (fun i => I b (o2 + i))) : Iw L κ R ow I2 :=
  ⟨hU, gm_now W9 h hx hk ha (fun c hc j => by rw [e, cpn_b hc]) (fun j hj => by rw [e, cpn_o (by omega)]) (gs_ext G (fun _ _ => rfl) (fun i hi => by rw [e, cpn_i hi]))⟩
def Ga_ (R : Nat → Nat → Option Nat) (x : Nat) (I : Nat → Nat → Int32) : Prop := ∀ a s, R x 14 = some a → R x 18 = some s → Gs (I a) (fun i => I s (0 + i))
theorem ga_lay (W9 : ∀ a ∈ L, Shp L κ ln R ow a) (h : Gm L κ R I) (hx : x ∈ L) (hk : κ x = 12) (ha : R x 14 = some a) (hb : R x 18 = some b) (e : I2 = cpn_ I a b 72 0 75) : Ga_ R x I2 := fun a' s h1 h2 => by
  rw [ha] at h1; cases h1; rw [hb] at h2; cases h2
  obtain ⟨-, a2, -⟩ := rw_in W9 hx hk (k := 14) (t := 14) (n := 389) rfl (by decide) ha
  obtain ⟨-, b2, -⟩ := rw_in W9 hx hk (k := 18) (t := 14) (n := 75) rfl (by decide) hb
  have ea : I2 a = I a := funext fun j => by rw [e, cpn_b (ne_ro a2 b2 (by decide))]
  rw [ea]
  exact gs_ext (gm_gs W9 h hx hk ha) (fun _ _ => rfl) (fun i hi => by rw [e, cpn_i hi])
theorem ga_mv (W9 : ∀ a ∈ L, Shp L κ ln R ow a) (hx : x ∈ L) (hk : κ x = 12) (h : Ga_ R x I) (hd : Hd_ R x I I2) (hF : Fq L κ ow T I I2) (hT : 83800 ∉ T) : Ga_ R x I2 := fun a s h1 h2 => by
  obtain ⟨b1, b2, -⟩ := rw_in W9 hx hk (k := 18) (t := 14) (n := 75) rfl (by decide) h2
  exact gs_ext (h a s h1 h2) (fun p hp => hd a h1 _ (by omega)) (fun i _ => fq_ar hF b1 b2 (by decide) hT rfl)
theorem gm_mk (h : Gm L κ R I) (hx : x ∈ L) (hkx : κ x = 12) (hme : ∀ a s k nd rw, R x 14 = some a → R x 17 = some s → R x 16 = some k → R x 46 = some nd → R x 42 = some rw → Fc_ I x a s k nd rw → Fc_ I2 x a s k nd rw) : Gm L κ R I2 := ⟨h.1, fun y hy hk a s k nd rw h1 h2 h3 h4 h5 => by
  have e := h.1 y hy x hx hk hkx
  subst e
  exact hme a s k nd rw h1 h2 h3 h4 h5 (h.2 y hy hk a s k nd rw h1 h2 h3 h4 h5)⟩
/-- the roles of the rows of x -/
theorem rl_ (W9 : ∀ a ∈ L, Shp L κ ln R ow a) (hx : x ∈ L) (hk : κ x = 12) {a s k nd rw : Nat} (h1 : R x 14 = some a) (h2 : R x 17 = some s) (h3 : R x 16 = some k) (h4 : R x 46 = some nd) (h5 : R x 42 = some rw) : ro_ κ ow x = 12 ∧ ro_ κ ow a = 834 ∧ ro_ κ ow s = 837 ∧ ro_ κ ow k = 836 ∧ ro_ κ ow nd = 866 ∧ ro_ κ ow rw = 862 :=
  ⟨ro_o hk (by decide), (rw_in W9 hx hk (k := 14) (t := 14) (n := 389) rfl (by decide) h1).2.1, (rw_in W9 hx hk (k := 17) (t := 14) (n := 600) rfl (by decide) h2).2.1, (rw_in W9 hx hk (k := 16) (t := 14) (n := 778) rfl (by decide) h3).2.1, (rw_in W9 hx hk (k := 46) (t := 14) (n := 240) rfl (by decide) h4).2.1, (rw_in W9 hx hk (k := 42) (t := 14) (n := 160) rfl (by decide) h5).2.1⟩
/-- fewer can be undone -/
theorem iw_dec (W9 : ∀ a ∈ L, Shp L κ ln R ow a) (h : Iw L κ R ow I) (hU : Uw L κ ow I2) (hx : x ∈ L) (hk : κ x = 12) (e : I2 = u2_ I x 23 v) (hv : v.toInt ≤ (I x 23).toInt) : Iw L κ R ow I2 :=
  ⟨hU, gm_mk h.2 hx hk (fun a s k nd rw h1 h2 h3 h4 h5 F => by
    obtain ⟨r0, r1, r2, r3, r4, r5⟩ := rl_ W9 hx hk h1 h2 h3 h4 h5
    obtain ⟨g1, g2, g3, g4, g5, g6, g7⟩ := F
    have ea : I2 a = I a := funext fun i => by rw [e, u2_b (ne_ro r1 r0 (by decide))]
    have eb : I2 s = I s := funext fun i => by rw [e, u2_b (ne_ro r2 r0 (by decide))]
    have ec : I2 k = I k := funext fun i => by rw [e, u2_b (ne_ro r3 r0 (by decide))]
    have ed : I2 nd = I nd := funext fun i => by rw [e, u2_b (ne_ro r4 r0 (by decide))]
    have ee : I2 rw = I rw := funext fun i => by rw [e, u2_b (ne_ro r5 r0 (by decide))]
    unfold Fc_
    rw [ea, eb, ec, ed, ee, show I2 x 44 = I x 44 by rw [e, u2_j (by decide)], show I2 x 23 = v by rw [e, u2_s]]
    exact ⟨g1, fun j hj => g2 j (by omega), g3, g4, g5, g6, g7⟩)⟩
/-- the oldest goes -/
theorem iw_sh (W9 : ∀ a ∈ L, Shp L κ ln R ow a) (h : Iw L κ R ow I) (hU : Uw L κ ow I2) (hx : x ∈ L) (hk : κ x = 12) {s : Nat} (hs : R x 17 = some s) (e1 : I1 = cpn_ I s s 75 0 525) (e2 : I2 = u2_ I1 x 23 v) (h8 : (I x 23).toInt = 8) (hv : v.toInt = 7) : Iw L κ R ow I2 :=
  ⟨hU, gm_mk h.2 hx hk (fun a s' k nd rw h1 h2 h3 h4 h5 F => by
    rw [hs] at h2; cases h2
    obtain ⟨r0, r1, r2, r3, r4, r5⟩ := rl_ W9 hx hk h1 hs h3 h4 h5
    obtain ⟨g1, g2, g3, g4, g5, g6, g7⟩ := F
    have ea : I2 a = I a := funext fun i => by rw [e2, u2_b (ne_ro r1 r0 (by decide)), e1, cpn_b (ne_ro r1 r2 (by decide))]
    have ec : I2 k = I k := funext fun i => by rw [e2, u2_b (ne_ro r3 r0 (by decide)), e1, cpn_b (ne_ro r3 r2 (by decide))]
    have ed : I2 nd = I nd := funext fun i => by rw [e2, u2_b (ne_ro r4 r0 (by decide)), e1, cpn_b (ne_ro r4 r2 (by decide))]
    have ee : I2 rw = I rw := funext fun i => by rw [e2, u2_b (ne_ro r5 r0 (by decide)), e1, cpn_b (ne_ro r5 r2 (by decide))]
    unfold Fc_
    rw [ea, ec, ed, ee, show I2 x 44 = I x 44 by rw [e2, u2_j (by decide), e1, cpn_b (ne_ro r0 r2 (by decide))], show I2 x 23 = v by rw [e2, u2_s]]
    refine ⟨g1, fun j hj => gs_ext (g2 (j + 1) (by omega)) (fun _ _ => rfl) (fun i hi => ?_), g3, g4, g5, g6, g7⟩
    rw [e2, u2_b (ne_ro r2 r0 (by decide)), e1]
    have := cpn_i (I := I) (b := s) (a := s) (o2 := 75) (o1 := 0) (k := 525) (i := 75 * j + i) (by omega)
    rw [Nat.zero_add] at this
    rw [this, show 75 + (75 * j + i) = 75 * (j + 1) + i by omega])⟩
/-- what is now can be come back to -/
theorem iw_sn (W9 : ∀ a ∈ L, Shp L κ ln R ow a) (h : Iw L κ R ow I) (hU : Uw L κ ow I2) (hx : x ∈ L) (hk : κ x = 12) {a s : Nat} (ha : R x 14 = some a) (hs : R x 17 = some s) {mv : Int32} (e1 : I1 = cpn_ I a s 72 (75 * mv.toNatClampNeg) 75) (e2 : I2 = u2_ I1 x 23 v) (hm : I x 23 = mv) (h0 : 0 ≤ mv.toInt) (hv : v.toInt = mv.toInt + 1) : Iw L κ R ow I2 :=
  ⟨hU, gm_mk h.2 hx hk (fun a' s' k nd rw h1 h2 h3 h4 h5 F => by
    rw [hs] at h2; cases h2; rw [ha] at h1; cases h1
    obtain ⟨r0, r1, r2, r3, r4, r5⟩ := rl_ W9 hx hk ha hs h3 h4 h5
    obtain ⟨g1, g2, g3, g4, g5, g6, g7⟩ := F
    have em : (mv.toNatClampNeg : Int) = mv.toInt := by have e : mv.toNatClampNeg = mv.toInt.toNat := rfl
                                                        omega
    have ea : I2 a = I a := funext fun i => by rw [e2, u2_b (ne_ro r1 r0 (by decide)), e1, cpn_b (ne_ro r1 r2 (by decide))]
    have ec : I2 k = I k := funext fun i => by rw [e2, u2_b (ne_ro r3 r0 (by decide)), e1, cpn_b (ne_ro r3 r2 (by decide))]
    have ed : I2 nd = I nd := funext fun i => by rw [e2, u2_b (ne_ro r4 r0 (by decide)), e1, cpn_b (ne_ro r4 r2 (by decide))]
    have ee : I2 rw = I rw := funext fun i => by rw [e2, u2_b (ne_ro r5 r0 (by decide)), e1, cpn_b (ne_ro r5 r2 (by decide))]
    unfold Fc_
    rw [ea, ec, ed, ee, show I2 x 44 = I x 44 by rw [e2, u2_j (by decide), e1, cpn_b (ne_ro r0 r2 (by decide))], show I2 x 23 = v by rw [e2, u2_s]]
    rw [hm] at g2
    refine ⟨g1, fun j hj => ?_, g3, g4, g5, g6, g7⟩
    by_cases q : j = mv.toNatClampNeg
    · refine gs_ext g1 (fun _ _ => rfl) (fun i hi => ?_)
      rw [e2, u2_b (ne_ro r2 r0 (by decide)), e1, q, cpn_i hi]
    · refine gs_ext (g2 j (by omega)) (fun _ _ => rfl) (fun i hi => ?_)
      rw [e2, u2_b (ne_ro r2 r0 (by decide)), e1, cpn_o (by omega)])⟩
theorem gm_sn (W9 : ∀ a ∈ L, Shp L κ ln R ow a) (h : Gm L κ R I) (hx : x ∈ L) (hk : κ x = 12) {a s : Nat} (ha : R x 14 = some a) (hs : R x 17 = some s) (e : I2 = u2_ I x 23 v) {mv : Int32} (hj : mv.toInt < (I x 23).toInt) (h0 : 0 ≤ mv.toInt) : Gs (I2 a) (fun i => I2 s (75 * mv.toNatClampNeg + i)) := by
  obtain ⟨k, h3, -⟩ := shp_a (W9 x hx) hk 16 14 778 rfl (by decide)
  obtain ⟨nd, h4, -⟩ := shp_a (W9 x hx) hk 46 14 240 rfl (by decide)
  obtain ⟨rw, h5, -⟩ := shp_a (W9 x hx) hk 42 14 160 rfl (by decide)
  obtain ⟨r0, r1, r2, -⟩ := rl_ W9 hx hk ha hs h3 h4 h5
  have em : (mv.toNatClampNeg : Int) = mv.toInt := by have e : mv.toNatClampNeg = mv.toInt.toNat := rfl
                                                      omega
  have g := (h.2 x hx hk a s k nd rw ha hs h3 h4 h5).2.1 mv.toNatClampNeg (by omega)
  rw [show I2 a = I a from funext fun i => by rw [e, u2_b (ne_ro r1 r0 (by decide))], show I2 s = I s from funext fun i => by rw [e, u2_b (ne_ro r2 r0 (by decide))]]
  exact g
/-- an image -/
theorem iw_im (W9 : ∀ a ∈ L, Shp L κ ln R ow a) (h : Iw L κ R ow I) (hU : Uw L κ ow I2) (hx : x ∈ L) (hk : κ x = 12) {a k q0 : Nat} (ha : R x 14 = some a) (hkk : R x 16 = some k) (e1 : I2 = cpn_ I a k 0 (389 * q0) 389) : Iw L κ R ow I2 :=
  ⟨hU, gm_mk h.2 hx hk (fun a' s k' nd rw h1 h2 h3 h4 h5 F => by
    rw [ha] at h1; cases h1; rw [hkk] at h3; cases h3
    obtain ⟨r0, r1, r2, r3, r4, r5⟩ := rl_ W9 hx hk ha h2 hkk h4 h5
    obtain ⟨g1, g2, g3, g4, g5, g6, g7⟩ := F
    have ea : I2 a = I a := funext fun i => by rw [e1, cpn_b (ne_ro r1 r3 (by decide))]
    have eb : I2 s = I s := funext fun i => by rw [e1, cpn_b (ne_ro r2 r3 (by decide))]
    have ed : I2 nd = I nd := funext fun i => by rw [e1, cpn_b (ne_ro r4 r3 (by decide))]
    have ee : I2 rw = I rw := funext fun i => by rw [e1, cpn_b (ne_ro r5 r3 (by decide))]
    have e44 : I2 x 44 = I x 44 := by rw [e1, cpn_b (ne_ro r0 r3 (by decide))]
    have e23 : I2 x 23 = I x 23 := by rw [e1, cpn_b (ne_ro r0 r3 (by decide))]
    have in1 : ∀ i, i < 389 → I2 k (389 * q0 + i) = I a i := fun i hi => by
      have := cpn_i (I := I) (b := a) (a := k) (o2 := 0) (o1 := 389 * q0) hi
      rw [e1, this, Nat.zero_add]
    have out1 : ∀ q i, q ≠ q0 → i < 389 → I2 k (389 * q + i) = I k (389 * q + i) := fun q i hq hi => by
      rw [e1, cpn_o (by omega)]
    unfold Fc_
    rw [ea, eb, ed, ee, e44, e23]
    refine ⟨g1, g2, fun q hq => ?_, g4, fun q hq => ?_, g6, g7⟩
    · by_cases c : q = q0
      · subst c
        exact gs_ext g1 (fun p hp => in1 _ (by omega)) (fun i hi => by rw [show 389 * q + 72 + i = 389 * q + (72 + i) by omega, in1 _ (by omega)])
      · exact gs_ext (g3 q hq) (fun p hp => out1 q _ c (by omega)) (fun i hi => by rw [show 389 * q + 72 + i = 389 * q + (72 + i) by omega, out1 q _ c (by omega)])
    · by_cases c : q = q0
      · subst c
        exact tr_ext g4 (fun i hi => by rw [show 389 * q + 149 + i = 389 * q + (149 + i) by omega, in1 _ (by omega)])
      · exact tr_ext (g5 q hq) (fun i hi => by rw [show 389 * q + 149 + i = 389 * q + (149 + i) by omega, out1 q _ c (by omega)]))⟩
/-- a sentence is now -/
theorem iw_se (W9 : ∀ a ∈ L, Shp L κ ln R ow a) (h : Iw L κ R ow I) (hU : Uw L κ ow I2) (hx : x ∈ L) (hk : κ x = 12) {a nd : Nat} (ha : R x 14 = some a) (hn : R x 46 = some nd) (e1 : I2 = cpn_ I nd a 0 149 240) : Iw L κ R ow I2 :=
  ⟨hU, gm_mk h.2 hx hk (fun a' s k nd' rw h1 h2 h3 h4 h5 F => by
    rw [ha] at h1; cases h1; rw [hn] at h4; cases h4
    obtain ⟨r0, r1, r2, r3, r4, r5⟩ := rl_ W9 hx hk ha h2 h3 hn h5
    obtain ⟨g1, g2, g3, g4, g5, g6, g7⟩ := F
    have eb : I2 s = I s := funext fun i => by rw [e1, cpn_b (ne_ro r2 r1 (by decide))]
    have ec : I2 k = I k := funext fun i => by rw [e1, cpn_b (ne_ro r3 r1 (by decide))]
    have ed : I2 nd = I nd := funext fun i => by rw [e1, cpn_b (ne_ro r4 r1 (by decide))]
    have ee : I2 rw = I rw := funext fun i => by rw [e1, cpn_b (ne_ro r5 r1 (by decide))]
    have e44 : I2 x 44 = I x 44 := by rw [e1, cpn_b (ne_ro r0 r1 (by decide))]
    have e23 : I2 x 23 = I x 23 := by rw [e1, cpn_b (ne_ro r0 r1 (by decide))]
    have out1 : ∀ i, i < 149 → I2 a i = I a i := fun i hi => by rw [e1, cpn_o (by omega)]
    unfold Fc_
    rw [eb, ec, ed, ee, e44, e23]
    exact ⟨gs_ext g1 (fun p hp => out1 _ (by omega)) (fun i hi => out1 _ (by omega)), fun j hj => gs_ext (g2 j hj) (fun p hp => out1 _ (by omega)) (fun _ _ => rfl), g3, tr_ext g6 (fun i hi => by rw [e1, cpn_i hi, Nat.zero_add]), g5, g6, g7⟩)⟩
end CPW
