/-! names of the class's tables: which are kept -/
def Kn_ (L : List Nat) (κ : Nat → Nat) (R : Nat → Nat → Option Nat) (J J2 : Nat → Nat → Int64) (ts : List Nat) : Prop := ∀ c, c ∈ L → κ c = 8 → c ∉ ts → ∀ q, (R c 0 = some q ∨ R c 3 = some q) → ∀ j, J2 q j = J q j
/-- t's names have become as s's were -/
def Sn_ (R : Nat → Nat → Option Nat) (J J2 : Nat → Nat → Int64) (t s : Nat) : Prop := (∀ q b, R t 0 = some q → R s 0 = some b → ∀ j, j < 7 → J2 q j = J b j) ∧ ∀ q b, R t 3 = some q → R s 3 = some b → ∀ j, j < 6 → J2 q j = J b j
/-- a table's names -/
def Cm_ (R : Nat → Nat → Option Nat) (J : Nat → Nat → Int64) (h : Nat) (b : TB_) : Prop := (∀ q, R h 0 = some q → ∀ j : Nat, j < 7 → J q j = b.pnm j) ∧ ∀ q, R h 3 = some q → ∀ j : Nat, j < 6 → J q j = b.dnm j
section KN
variable {L : List Nat} {κ ln : Nat → Nat} {R : Nat → Nat → Option Nat} {ow : Nat → Nat × Nat} {J J1 J2 : Nat → Nat → Int64} {ts ts2 : List Nat} {a t r : Nat} {T : List Nat}
theorem kn_rf : Kn_ L κ R J J ts := fun _ _ _ _ _ _ _ => rfl
theorem kn_row (W9 : ∀ a ∈ L, Shp L κ ln R ow a) {c q : Nat} (hc : c ∈ L) (hk : κ c = 8) (hq : R c 0 = some q ∨ R c 3 = some q) : q ∈ L ∧ (ow q).1 = c ∧ (ro_ κ ow q = 580 ∨ ro_ κ ow q = 583) := by
  rcases hq with hq | hq
  · obtain ⟨b, h1, h2, h3, -, h5⟩ := shp_a (W9 c hc) hk 0 15 7 rfl (by decide)
    rw [hq] at h1; cases h1
    exact ⟨h2, by rw [h5], Or.inl (ro_a h3 (by decide) h5 hk rfl)⟩
  · obtain ⟨b, h1, h2, h3, -, h5⟩ := shp_a (W9 c hc) hk 3 15 6 rfl (by decide)
    rw [hq] at h1; cases h1
    exact ⟨h2, by rw [h5], Or.inr (ro_a h3 (by decide) h5 hk rfl)⟩
theorem kn_g (W9 : ∀ a ∈ L, Shp L κ ln R ow a) (h : Kn_ L κ R J J1 ts) (e : ∀ c, c ≠ a → ∀ j, J2 c j = J1 c j) (ha : (ro_ κ ow a = r ∧ r ≠ 580 ∧ r ≠ 583) ∨ (∃ t, t ∈ ts ∧ (ow a).1 = t)) : Kn_ L κ R J J2 ts := fun c hc hk hn q hq j => by
  obtain ⟨q1, q2, q3⟩ := kn_row W9 hc hk hq
  refine (e q (fun z => ?_) j).trans (h c hc hk hn q hq j)
  subst z
  rcases ha with ⟨h1, h2, h3⟩ | ⟨t, h1, h2⟩
  · rw [h1] at q3; omega
  · rw [q2] at h2; exact hn (by rw [h2]; exact h1)
theorem kn_u (W9 : ∀ a ∈ L, Shp L κ ln R ow a) {k : Nat} {v : Int64} (h : Kn_ L κ R J J1 ts) (e : J2 = u2_ J1 a k v) (ha : (ro_ κ ow a = r ∧ r ≠ 580 ∧ r ≠ 583) ∨ (∃ t, t ∈ ts ∧ (ow a).1 = t)) : Kn_ L κ R J J2 ts := kn_g W9 h (fun c hc j => by rw [e, u2_b hc]) ha
theorem kn_cp (W9 : ∀ a ∈ L, Shp L κ ln R ow a) {b n : Nat} (h : Kn_ L κ R J J1 ts) (e : J2 = k2_ J1 b a n) (ha : (ro_ κ ow a = r ∧ r ≠ 580 ∧ r ≠ 583) ∨ (∃ t, t ∈ ts ∧ (ow a).1 = t)) : Kn_ L κ R J J2 ts := kn_g W9 h (fun c hc j => by rw [e, k2_b hc]) ha
theorem kn_fq (W9 : ∀ a ∈ L, Shp L κ ln R ow a) (h : Kn_ L κ R J J1 ts) (hG : Fq L κ ow T J1 J2) (hT : 58000 ∉ T ∧ 58300 ∉ T) : Kn_ L κ R J J2 ts := fun c hc hk hn q hq j => by
  obtain ⟨q1, q2, q3⟩ := kn_row W9 hc hk hq
  refine (hG q q1 j ?_).trans (h c hc hk hn q hq j)
  rcases q3 with q3 | q3
  · rw [q3, tg_a (by decide)]; exact hT.1
  · rw [q3, tg_a (by decide)]; exact hT.2
theorem kn_t (h : Kn_ L κ R J J1 ts) (h2 : Kn_ L κ R J1 J2 ts2) (hs : ∀ t ∈ ts2, t ∈ ts) : Kn_ L κ R J J2 ts := fun c hc hk hn q hq j => (h2 c hc hk (fun z => hn (hs c z)) q hq j).trans (h c hc hk hn q hq j)
theorem sn_fq (W9 : ∀ a ∈ L, Shp L κ ln R ow a) {s : Nat} (ht : t ∈ L) (hk : κ t = 8) (h : Sn_ R J J1 t s) (hG : Fq L κ ow T J1 J2) (hT : 58000 ∉ T ∧ 58300 ∉ T) : Sn_ R J J2 t s := by
  refine ⟨fun q b hq hb j hj => ?_, fun q b hq hb j hj => ?_⟩
  · obtain ⟨b1, h1, h2, h3, -, h5⟩ := shp_a (W9 t ht) hk 0 15 7 rfl (by decide)
    rw [hq] at h1; cases h1
    exact (hG q h2 j (by rw [ro_a h3 (by decide) h5 hk rfl, tg_a (by decide)]; exact hT.1)).trans (h.1 q b hq hb j hj)
  · obtain ⟨b1, h1, h2, h3, -, h5⟩ := shp_a (W9 t ht) hk 3 15 6 rfl (by decide)
    rw [hq] at h1; cases h1
    exact (hG q h2 j (by rw [ro_a h3 (by decide) h5 hk rfl, tg_a (by decide)]; exact hT.2)).trans (h.2 q b hq hb j hj)
theorem cm_of {b : TB_} {s p0 p3 : Nat} (h : Sn_ R J1 J2 t s) (h0 : R s 0 = some p0) (h3 : R s 3 = some p3) (e0 : ∀ j, J1 p0 j = b.pnm j) (e3 : ∀ j, J1 p3 j = b.dnm j) : Cm_ R J2 t b :=
  ⟨fun q hq j hj => (h.1 q p0 hq h0 j hj).trans (e0 j), fun q hq j hj => (h.2 q p3 hq h3 j hj).trans (e3 j)⟩
end KN
