/-! what holds of all sentences and of the book, beside the ranges -/
def Sn (L : List Nat) (κ : Nat → Nat) (R : Nat → Nat → Option Nat) (I : Nat → Nat → Int32) : Prop := ∀ s ∈ L, κ s = 7 → ∀ A N, R s 0 = some A → R s 2 = some N → ∀ j, I A j = 23 → Rg 0 5 (I N j)
def bk_ (R : Nat → Nat → Option Nat) (I : Nat → Nat → Int32) (x j : Nat) : Prop := ∀ A W E, R x 0 = some A → R x 1 = some W → R x 2 = some E → I A j = 16 ∨ (0 ≤ (I W j).toInt ∧ 0 ≤ (I E j).toInt) ∨ (0 ≤ (I W j).toInt ∧ ¬ I A j = 10 ∧ ¬ I A j = 11)
def Bk (L : List Nat) (κ : Nat → Nat) (R : Nat → Nat → Option Nat) (I : Nat → Nat → Int32) : Prop := ∀ x ∈ L, κ x = 0 → ∀ j : Nat, (j : Int) < (I x 4).toInt → bk_ R I x j
def Iv (L : List Nat) (κ : Nat → Nat) (R : Nat → Nat → Option Nat) (ow : Nat → Nat × Nat) (I : Nat → Nat → Int32) : Prop := Uv L κ ow I ∧ Sn L κ R I ∧ Bk L κ R I
def spl_ (t : Nat) : Bool := t == 52000 || t == 52200 || t == 10000 || t == 10100 || t == 10200 || t == 4
section INV
theorem tg_a {r j : Nat} (h : 13 ≤ r) : tg_ r j = r * 100 := by unfold tg_; rw [if_neg (by omega)]
variable {L : List Nat} {κ ln : Nat → Nat} {R : Nat → Nat → Option Nat} {ow : Nat → Nat × Nat} {I I1 I2 I3 I4 I5 I0 : Nat → Nat → Int32} {a b j r x k t ci n : Nat} {v : Int32} {lo hi : Int} {T T2 : List Nat}
theorem rw_in (W9 : ∀ a ∈ L, Shp L κ ln R ow a) {s k t n A : Nat} (hs : s ∈ L) (hk : κ s = ci) (hq : (rt_.getD ci [])[k]? = some (t, n)) (h9 : 13 ≤ t ∧ t < 99) (hA : R s k = some A) : A ∈ L ∧ ro_ κ ow A = 100 + 60 * ci + k ∧ ow A = (s, k) := by
  obtain ⟨b, h1, h2, h3, h4, h5⟩ := shp_a (W9 s hs) hk k t n hq h9
  rw [hA] at h1; cases h1
  exact ⟨h2, ro_a h3 h9.1 h5 hk rfl, h5⟩
theorem sn_of (W9 : ∀ a ∈ L, Shp L κ ln R ow a) (h : Sn L κ R I) (hf : ∀ c ∈ L, ∀ i, tg_ (ro_ κ ow c) i = 52000 ∨ tg_ (ro_ κ ow c) i = 52200 → I2 c i = I c i) : Sn L κ R I2 := by
  intro s hs hk A N hA hN j h23
  obtain ⟨a1, a2, a3⟩ := rw_in W9 hs hk (k := 0) (t := 14) (n := 40) rfl (by decide) hA
  obtain ⟨b1, b2, b3⟩ := rw_in W9 hs hk (k := 2) (t := 14) (n := 40) rfl (by decide) hN
  rw [hf A a1 j (Or.inl (by rw [a2]; rfl))] at h23
  rw [hf N b1 j (Or.inr (by rw [b2]; rfl))]
  exact h s hs hk A N hA hN j h23
theorem bk_of (W9 : ∀ a ∈ L, Shp L κ ln R ow a) {x : Nat} (hx : x ∈ L) (hk : κ x = 0) (h : bk_ R I x j) (hf : ∀ c ∈ L, ∀ i, tg_ (ro_ κ ow c) i = 10000 ∨ tg_ (ro_ κ ow c) i = 10100 ∨ tg_ (ro_ κ ow c) i = 10200 → I2 c i = I c i) : bk_ R I2 x j := by
  intro A W E hA hW hE
  obtain ⟨a1, a2, a3⟩ := rw_in W9 hx hk (k := 0) (t := 14) (n := 40) rfl (by decide) hA
  obtain ⟨b1, b2, b3⟩ := rw_in W9 hx hk (k := 1) (t := 14) (n := 40) rfl (by decide) hW
  obtain ⟨c1, c2, c3⟩ := rw_in W9 hx hk (k := 2) (t := 14) (n := 40) rfl (by decide) hE
  rw [hf A a1 j (Or.inl (by rw [a2]; rfl)), hf W b1 j (Or.inr (Or.inl (by rw [b2]; rfl))), hf E c1 j (Or.inr (Or.inr (by rw [c2]; rfl)))]
  exact h A W E hA hW hE
theorem Bk_of (W9 : ∀ a ∈ L, Shp L κ ln R ow a) (h : Bk L κ R I) (hf : ∀ c ∈ L, ∀ i, tg_ (ro_ κ ow c) i = 10000 ∨ tg_ (ro_ κ ow c) i = 10100 ∨ tg_ (ro_ κ ow c) i = 10200 → I2 c i = I c i) (hl : ∀ c ∈ L, κ c = 0 → I2 c 4 = I c 4) : Bk L κ R I2 := by
  intro x hx hk j hj
  rw [hl x hx hk] at hj
  exact bk_of W9 hx hk (h x hx hk j hj) hf
theorem iv_of (W9 : ∀ a ∈ L, Shp L κ ln R ow a) (h : Iv L κ R ow I) (hU : Uv L κ ow I2) (hf : ∀ c ∈ L, ∀ i, spl_ (tg_ (ro_ κ ow c) i) = true → I2 c i = I c i) : Iv L κ R ow I2 :=
  ⟨hU, sn_of W9 h.2.1 (fun c hc i q => hf c hc i (by rcases q with q | q <;> rw [q] <;> rfl)), Bk_of W9 h.2.2 (fun c hc i q => hf c hc i (by rcases q with q | q | q <;> rw [q] <;> rfl)) (fun c hc hk => hf c hc 4 (by rw [ro_o hk (by decide)]; rfl))⟩
theorem iv_put (W9 : ∀ a ∈ L, Shp L κ ln R ow a) (h : Iv L κ R ow I) (e : I2 = u2_ I a j v) (hr : ro_ κ ow a = r) (hb : bI r j = (lo, hi)) (hv : Rg lo hi v) (hs : spl_ (tg_ r j) = false) : Iv L κ R ow I2 :=
  iv_of W9 h (uv_put h.1 e hr hb hv) (fun c hc i q => by
    rw [e]; unfold u2_; split
    · rename_i h2; rw [h2.1, h2.2, hr, hs] at q; cases q
    · rfl)
theorem iv_cp (W9 : ∀ a ∈ L, Shp L κ ln R ow a) (h : Iv L κ R ow I) (hU : Uv L κ ow I2) (e : I2 = k2_ I b a n) (hr : ro_ κ ow a = r) (hs : ∀ i, spl_ (tg_ r i) = false) : Iv L κ R ow I2 :=
  iv_of W9 h hU (fun c hc i q => by
    rw [e]; unfold k2_; split
    · rename_i h2; rw [h2.1, hr, hs] at q; cases q
    · rfl)
theorem iv_fq (W9 : ∀ a ∈ L, Shp L κ ln R ow a) (h : Sn L κ R I ∧ Bk L κ R I) (hU : Uv L κ ow I2) (hF : Fq L κ ow T I I2) (hT : ∀ t ∈ T, spl_ t = false) : Iv L κ R ow I2 :=
  ⟨hU, sn_of W9 h.1 (fun c hc i q => hF c hc i (fun q2 => by have := hT _ q2; rcases q with q | q <;> rw [q] at this <;> exact absurd this (by decide))), Bk_of W9 h.2 (fun c hc i q => hF c hc i (fun q2 => by have := hT _ q2; rcases q with q | q | q <;> rw [q] at this <;> exact absurd this (by decide))) (fun c hc hk => hF c hc 4 (fun q2 => by have := hT _ q2; rw [ro_o hk (by decide)] at this; exact absurd this (by decide)))⟩
theorem bk_fq (W9 : ∀ a ∈ L, Shp L κ ln R ow a) {x : Nat} (hx : x ∈ L) (hk : κ x = 0) (h : bk_ R I x (I x 4).toNatClampNeg) (hF : Fq L κ ow T I I2) (hT : ∀ t ∈ T, spl_ t = false) : bk_ R I2 x (I2 x 4).toNatClampNeg := by
  rw [show I2 x 4 = I x 4 from hF x hx 4 (fun q2 => by have := hT _ q2; rw [ro_o hk (by decide)] at this; exact absurd this (by decide))]
  exact bk_of W9 hx hk h (fun c hc i q => hF c hc i (fun q2 => by have := hT _ q2; rcases q with q | q | q <;> rw [q] at this <;> exact absurd this (by decide)))
/-- a step is added to a sentence -/
theorem iv_add (W9 : ∀ a ∈ L, Shp L κ ln R ow a) (h : Iv L κ R ow I) (hU : Uv L κ ow I4) (hx : x ∈ L) (hkx : κ x = 7) {A G N m : Nat} {st sg nu z : Int32} (hA : R x 0 = some A) (hG : R x 1 = some G) (hN : R x 2 = some N) (e1 : I1 = u2_ I A n st) (e2 : I2 = u2_ I1 G n sg) (e3 : I3 = u2_ I2 N n nu) (e4 : I4 = u2_ I3 x 4 z) (h23 : st = 23 → Rg 0 5 nu) : Iv L κ R ow I4 := by
  obtain ⟨a1, a2, a3⟩ := rw_in W9 hx hkx (k := 0) (t := 14) (n := 40) rfl (by decide) hA
  obtain ⟨g1, g2, g3⟩ := rw_in W9 hx hkx (k := 1) (t := 14) (n := 40) rfl (by decide) hG
  obtain ⟨b1, b2, b3⟩ := rw_in W9 hx hkx (k := 2) (t := 14) (n := 40) rfl (by decide) hN
  have rx : ro_ κ ow x = 7 := ro_o hkx (by decide)
  have nr : ∀ {c d rc rd : Nat}, ro_ κ ow c = rc → ro_ κ ow d = rd → rc ≠ rd → c ≠ d := fun h1 h2 h3 q => h3 (by rw [← h1, ← h2, q])
  refine ⟨hU, ?_, Bk_of W9 h.2.2 (fun c hc i q => ?_) (fun c hc hk => ?_)⟩
  · intro s hs hk A' N' hA' hN' j h2
    obtain ⟨p1, p2, p3⟩ := rw_in W9 hs hk (k := 0) (t := 14) (n := 40) rfl (by decide) hA'
    obtain ⟨q1, q2, q3⟩ := rw_in W9 hs hk (k := 2) (t := 14) (n := 40) rfl (by decide) hN'
    have eA : I4 A' j = u2_ I A n st A' j := by
      rw [e4, u2_b (nr p2 rx (by decide)), e3, u2_b (nr p2 b2 (by decide)), e2, u2_b (nr p2 g2 (by decide)), e1]
    have eN : I4 N' j = u2_ I N n nu N' j := by
      rw [e4, u2_b (nr q2 rx (by decide)), e3]
      unfold u2_
      split
      · rfl
      · rw [e2, u2_b (nr q2 g2 (by decide)), e1, u2_b (nr q2 a2 (by decide))]
    by_cases hsx : s = x
    · subst hsx
      rw [hA] at hA'; cases hA'; rw [hN] at hN'; cases hN'
      by_cases hj : j = n
      · subst hj
        rw [eA, u2_s] at h2; rw [eN, u2_s]; exact h23 h2
      · rw [eA, u2_j hj] at h2; rw [eN, u2_j hj]; exact h.2.1 s hs hk _ _ hA hN j h2
    · have n1 : A' ≠ A := fun q => hsx (by rw [q, a3] at p3; exact (Prod.mk.inj p3).1.symm)
      have n2 : N' ≠ N := fun q => hsx (by rw [q, b3] at q3; exact (Prod.mk.inj q3).1.symm)
      rw [eA, u2_b n1] at h2; rw [eN, u2_b n2]; exact h.2.1 s hs hk _ _ hA' hN' j h2
  · have t1 : ∀ {f : Nat → Nat → Int32} {w : Int32} {m : Nat}, m = 4 ∨ m = 5 → u2_ f x m w c i = f c i := fun {f w m} hm => by
      unfold u2_; split
      · rename_i h2; rw [h2.1, h2.2, rx] at q; rcases hm with hm | hm <;> rw [hm] at q <;> rcases q with q | q | q <;> exact absurd q (by decide)
      · rfl
    have t2 : ∀ {d rd : Nat}, ro_ κ ow d = rd → (rd = 520 ∨ rd = 521 ∨ rd = 522) → c ≠ d := fun h1 h2 e => by
      rw [e, h1] at q; rcases h2 with h2 | h2 | h2 <;> rw [h2] at q <;> rcases q with q | q | q <;> exact absurd q (by rw [tg_a (by decide)]; decide)
    rw [e4, t1 (Or.inl rfl), e3, u2_b (t2 b2 (Or.inr (Or.inr rfl))), e2, u2_b (t2 g2 (Or.inr (Or.inl rfl))), e1, u2_b (t2 a2 (Or.inl rfl))]
  · have rc : ro_ κ ow c = 0 := ro_o hk (by decide)
    rw [e4, u2_b (nr rc rx (by decide)), e3, u2_b (nr rc b2 (by decide)), e2, u2_b (nr rc g2 (by decide)), e1, u2_b (nr rc a2 (by decide))]
/-- a sentence becomes another -/
theorem iv_bec (W9 : ∀ a ∈ L, Shp L κ ln R ow a) (h : Iv L κ R ow I) (hU : Uv L κ ow I5) (hx : x ∈ L) (hkx : κ x = 7) {y : Nat} (hy : y ∈ L) (hky : κ y = 7) {A G N A2 G2 N2 : Nat} {z z2 : Int32} (hA : R x 0 = some A) (hG : R x 1 = some G) (hN : R x 2 = some N) (hA2 : R y 0 = some A2) (hG2 : R y 1 = some G2) (hN2 : R y 2 = some N2) (e1 : I1 = k2_ I A2 A n) (e2 : I2 = k2_ I1 G2 G n) (e3 : I3 = k2_ I2 N2 N n) (e4 : I4 = u2_ I3 x 4 z) (e5 : I5 = u2_ I4 x 5 z2) : Iv L κ R ow I5 := by
  obtain ⟨a1, a2, a3⟩ := rw_in W9 hx hkx (k := 0) (t := 14) (n := 40) rfl (by decide) hA
  obtain ⟨g1, g2, g3⟩ := rw_in W9 hx hkx (k := 1) (t := 14) (n := 40) rfl (by decide) hG
  obtain ⟨b1, b2, b3⟩ := rw_in W9 hx hkx (k := 2) (t := 14) (n := 40) rfl (by decide) hN
  obtain ⟨c1, c2, c3⟩ := rw_in W9 hy hky (k := 2) (t := 14) (n := 40) rfl (by decide) hN2
  have rx : ro_ κ ow x = 7 := ro_o hkx (by decide)
  have nr : ∀ {c d rc rd : Nat}, ro_ κ ow c = rc → ro_ κ ow d = rd → rc ≠ rd → c ≠ d := fun h1 h2 h3 q => h3 (by rw [← h1, ← h2, q])
  refine ⟨hU, ?_, Bk_of W9 h.2.2 (fun c hc i q => ?_) (fun c hc hk => ?_)⟩
  · intro s hs hk A' N' hA' hN' j h2
    obtain ⟨p1, p2, p3⟩ := rw_in W9 hs hk (k := 0) (t := 14) (n := 40) rfl (by decide) hA'
    obtain ⟨q1, q2, q3⟩ := rw_in W9 hs hk (k := 2) (t := 14) (n := 40) rfl (by decide) hN'
    have eA : I5 A' j = k2_ I A2 A n A' j := by
      rw [e5, u2_b (nr p2 rx (by decide)), e4, u2_b (nr p2 rx (by decide)), e3, k2_b (nr p2 b2 (by decide)), e2, k2_b (nr p2 g2 (by decide)), e1]
    have eN : I5 N' j = k2_ I N2 N n N' j := by
      rw [e5, u2_b (nr q2 rx (by decide)), e4, u2_b (nr q2 rx (by decide)), e3]
      unfold k2_
      split
      · rw [e2, k2_b (nr c2 g2 (by decide)), e1, k2_b (nr c2 a2 (by decide))]
      · rw [e2, k2_b (nr q2 g2 (by decide)), e1, k2_b (nr q2 a2 (by decide))]
    by_cases hsx : s = x
    · subst hsx
      rw [hA] at hA'; cases hA'; rw [hN] at hN'; cases hN'
      unfold k2_ at eA eN
      by_cases hj : j < n
      · rw [if_pos ⟨rfl, hj⟩] at eA eN
        rw [eA] at h2; rw [eN]; exact h.2.1 y hy hky _ _ hA2 hN2 j h2
      · rw [if_neg (fun q => hj q.2)] at eA eN
        rw [eA] at h2; rw [eN]; exact h.2.1 s hs hk _ _ hA hN j h2
    · have n1 : A' ≠ A := fun q => hsx (by rw [q, a3] at p3; exact (Prod.mk.inj p3).1.symm)
      have n2 : N' ≠ N := fun q => hsx (by rw [q, b3] at q3; exact (Prod.mk.inj q3).1.symm)
      rw [eA, k2_b n1] at h2; rw [eN, k2_b n2]; exact h.2.1 s hs hk _ _ hA' hN' j h2
  · have t1 : ∀ {f : Nat → Nat → Int32} {w : Int32} {m : Nat}, m = 4 ∨ m = 5 → u2_ f x m w c i = f c i := fun {f w m} hm => by
      unfold u2_; split
      · rename_i h2; rw [h2.1, h2.2, rx] at q; rcases hm with hm | hm <;> rw [hm] at q <;> rcases q with q | q | q <;> exact absurd q (by decide)
      · rfl
    have t2 : ∀ {d rd : Nat}, ro_ κ ow d = rd → (rd = 520 ∨ rd = 521 ∨ rd = 522) → c ≠ d := fun h1 h2 e => by
      rw [e, h1] at q; rcases h2 with h2 | h2 | h2 <;> rw [h2] at q <;> rcases q with q | q | q <;> exact absurd q (by rw [tg_a (by decide)]; decide)
    rw [e5, t1 (Or.inr rfl), e4, t1 (Or.inl rfl), e3, k2_b (t2 b2 (Or.inr (Or.inr rfl))), e2, k2_b (t2 g2 (Or.inr (Or.inl rfl))), e1, k2_b (t2 a2 (Or.inl rfl))]
  · have rc : ro_ κ ow c = 0 := ro_o hk (by decide)
    rw [e5, u2_b (nr rc rx (by decide)), e4, u2_b (nr rc rx (by decide)), e3, k2_b (nr rc b2 (by decide)), e2, k2_b (nr rc g2 (by decide)), e1, k2_b (nr rc a2 (by decide))]
/-- a row of the book is written at the place of the line that is read -/
theorem iv_row (W9 : ∀ a ∈ L, Shp L κ ln R ow a) (h : Iv L κ R ow I) (hU : Uv L κ ow I2) (e : I2 = u2_ I a n v) (hr : ro_ κ ow a = r) (ho : ow a = (x, k)) (h3 : r = 100 ∨ r = 101 ∨ r = 102) {len : Int32} (hl : I x 4 = len) (hn : n = len.toNatClampNeg) : Iv L κ R ow I2 := by
  refine ⟨hU, sn_of W9 h.2.1 (fun c hc i q => ?_), ?_⟩
  · rw [e, u2_b (fun q2 => by rw [q2, hr] at q; rcases h3 with h3 | h3 | h3 <;> rw [h3] at q <;> rcases q with q | q <;> exact absurd q (by rw [tg_a (by decide)]; decide))]
  · intro y hy hk j hj
    have na : y ≠ a := fun q => by rw [← q, ro_o hk (by decide)] at hr; subst hr; omega
    rw [e, u2_b na] at hj
    have key : ∀ k2 B, k2 < 3 → R y k2 = some B → I2 B j = I B j := by
      intro k2 B h2 hB
      have h9 : (rt_.getD 0 [])[k2]? = some (14, 40) := by
        have : k2 = 0 ∨ k2 = 1 ∨ k2 = 2 := by omega
        rcases this with h | h | h <;> subst h <;> rfl
      obtain ⟨p1, p2, p3⟩ := rw_in W9 hy hk (k := k2) (t := 14) (n := 40) h9 (by decide) hB
      rw [e]; unfold u2_; split
      · rename_i q
        rw [q.1, ho] at p3
        have exy : x = y := (Prod.mk.inj p3).1
        subst exy
        rw [hl] at hj
        have hnn : (len.toNatClampNeg : Int) = if 0 ≤ len.toInt then len.toInt else 0 := by
          have e : len.toNatClampNeg = len.toInt.toNat := rfl
          split <;> omega
        have := q.2
        split at hnn <;> omega
      · rfl
    intro A W E hA hW hE
    rw [key 0 A (by decide) hA, key 1 W (by decide) hW, key 2 E (by decide) hE]
    exact h.2.2 y hy hk j hj A W E hA hW hE
theorem iv_len (W9 : ∀ a ∈ L, Shp L κ ln R ow a) (h : Iv L κ R ow I) (hU : Uv L κ ow I2) (hx : x ∈ L) (hkx : κ x = 0) (e : I2 = u2_ I x 4 v) (hb : ∀ j : Nat, (j : Int) < v.toInt → (j : Int) < (I x 4).toInt ∨ bk_ R I x j) : Iv L κ R ow I2 := by
  have rx : ro_ κ ow x = 0 := ro_o hkx (by decide)
  have hf : ∀ c ∈ L, ∀ i, tg_ (ro_ κ ow c) i = 10000 ∨ tg_ (ro_ κ ow c) i = 10100 ∨ tg_ (ro_ κ ow c) i = 10200 → I2 c i = I c i := fun c hc i q => by
    rw [e]; unfold u2_; split
    · rename_i h2; rw [h2.1, h2.2, rx] at q; rcases q with q | q | q <;> exact absurd q (by decide)
    · rfl
  refine ⟨hU, sn_of W9 h.2.1 (fun c hc i q => ?_), ?_⟩
  · rw [e]; unfold u2_; split
    · rename_i h2; rw [h2.1, h2.2, rx] at q; rcases q with q | q <;> exact absurd q (by decide)
    · rfl
  · intro y hy hk j hj
    by_cases hyx : y = x
    · subst hyx
      rw [e, u2_s] at hj
      rcases hb j hj with q | q
      · exact bk_of W9 hy hk (h.2.2 y hy hk j q) hf
      · exact bk_of W9 hy hk q hf
    · rw [e, u2_b hyx] at hj
      exact bk_of W9 hy hk (h.2.2 y hy hk j hj) hf
theorem iv_len0 (W9 : ∀ a ∈ L, Shp L κ ln R ow a) (h : Iv L κ R ow I) (hU : Uv L κ ow I2) (hx : x ∈ L) (hkx : κ x = 0) (e : I2 = u2_ I x 4 0) : Iv L κ R ow I2 := iv_len W9 h hU hx hkx e (fun j hj => by rw [show (0 : Int32).toInt = 0 from by decide] at hj; omega)
theorem iv_len1 (W9 : ∀ a ∈ L, Shp L κ ln R ow a) (h : Iv L κ R ow I) (hU : Uv L κ ow I2) (hx : x ∈ L) (hkx : κ x = 0) {len : Int32} (e : I2 = u2_ I x 4 v) (hl : I x 4 = len) (h0 : Rg 0 lo len) (hv : v.toInt = len.toInt + 1) (hb : bk_ R I x (I x 4).toNatClampNeg) : Iv L κ R ow I2 := iv_len W9 h hU hx hkx e (fun j hj => by
  rw [hl] at hb ⊢
  have e2 := ix_n h0 (by decide)
  by_cases q : (j : Int) < len.toInt
  · exact Or.inl q
  · have : j = len.toNatClampNeg := by omega
    exact Or.inr (this ▸ hb))
theorem bk_m1 {A : Nat} {len v : Int32} (hl : I x 4 = len) (hA : R x 0 = some A) (h1 : I A len.toNatClampNeg = v) (hv : v = 16) : bk_ R I x (I x 4).toNatClampNeg := by
  intro A' W' E' a1 a2 a3
  rw [hA] at a1; cases a1
  rw [hl]; exact Or.inl (h1.trans hv)
theorem bk_m2 {W E : Nat} {len w d : Int32} {b1 b2 : Int} (hl : I x 4 = len) (hW : R x 1 = some W) (hE : R x 2 = some E) (h1 : I W len.toNatClampNeg = w) (r1 : Rg 0 b1 w) (h2 : I E len.toNatClampNeg = d) (r2 : Rg 0 b2 d) : bk_ R I x (I x 4).toNatClampNeg := by
  intro A' W' E' a1 a2 a3
  rw [hW] at a2; cases a2
  rw [hE] at a3; cases a3
  rw [hl]; exact Or.inr (Or.inl ⟨by rw [h1]; exact r1.1, by rw [h2]; exact r2.1⟩)
theorem bk_m3 {A W : Nat} {len w v : Int32} {b1 a3 b3 : Int} (hl : I x 4 = len) (hA : R x 0 = some A) (hW : R x 1 = some W) (h1 : I W len.toNatClampNeg = w) (r1 : Rg 0 b1 w) (h2 : I A len.toNatClampNeg = v) (r2 : Rg a3 b3 v) (h3 : 11 < a3) : bk_ R I x (I x 4).toNatClampNeg := by
  intro A' W' E' c1 c2 c3
  rw [hA] at c1; cases c1
  rw [hW] at c2; cases c2
  rw [hl]
  refine Or.inr (Or.inr ⟨by rw [h1]; exact r1.1, fun q => ?_, fun q => ?_⟩)
  · rw [h2] at q; have := r2.1; rw [q] at this; have e : (10 : Int32).toInt = 10 := by decide
    omega
  · rw [h2] at q; have := r2.1; rw [q] at this; have e : (11 : Int32).toInt = 11 := by decide
    omega
theorem bk_lt {g len : Int32} {b1 : Int} (h : g < len) (hl : I x 4 = len) (hg : Rg 0 b1 g) : ((g.toNatClampNeg : Nat) : Int) < (I x 4).toInt := by
  rw [hl, ix_n hg (by decide)]; exact Int32.lt_iff_toInt_lt.mp h
theorem rg_g0 {a b : Int} {y z : Int32} (h : Rg a b z) (e : y = z) (h0 : 0 ≤ y.toInt) : Rg 0 b z := by subst e; exact ⟨h0, h.2⟩
theorem rg_or {lo hi : Int} {r a0 : Int32} (e : r = (-1) ∨ r = a0) (h : Rg lo hi a0) (h1 : lo ≤ -1) (h2 : -1 ≤ hi) : Rg lo hi r := by
  rcases e with e | e
  · subst e; have q : (-1 : Int32).toInt = -1 := by decide
    unfold Rg; omega
  · subst e; exact h
theorem rg_1k {k : Int} {y z : Int32} (h : Rg k k z) (hk : Rg k k y) : z = y := Int32.toInt_inj.mp (by unfold Rg at *; omega)
end INV
