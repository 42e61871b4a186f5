/-! a row of objects that is being filled -/
/-- as Md, but for the row x, which lies in a's field f; i of its N places are filled with objects of kind ed -/
def Lp_ (a x f kd ed N i : Nat) (L0 : List Nat) (κ0 ln0 : Nat → Nat) (R0 : Nat → Nat → Option Nat) (ow0 : Nat → Nat × Nat) (I0 : Nat → Nat → Int32) (J0 : Nat → Nat → Int64) (L : List Nat) (κ ln : Nat → Nat) (R : Nat → Nat → Option Nat) (ow : Nat → Nat × Nat) (I : Nat → Nat → Int32) (J : Nat → Nat → Int64) : Prop := (∀ b ∈ L0, b ∈ L ∧ κ b = κ0 b ∧ ln b = ln0 b ∧ ow b = ow0 b ∧ (b ≠ a → (∀ j, I b j = I0 b j) ∧ (∀ j, R b j = R0 b j) ∧ ∀ j, J b j = J0 b j)) ∧ (∀ b ∈ L, b ∉ L0 → b ≠ x → Gd L κ ln R ow I J b) ∧ x ∈ L ∧ x ∉ L0 ∧ κ x = kd ∧ ln x = N ∧ ow x = (a, f) ∧ R a f = some x ∧ (∀ j, I x j = 0) ∧ ∀ k, k < i → ∃ b, R x k = some b ∧ b ∈ L ∧ κ b = ed
theorem Lp_.ex {L0 : List Nat} {κ0 ln0 : Nat → Nat} {R0 : Nat → Nat → Option Nat} {ow0 : Nat → Nat × Nat} {I0 : Nat → Nat → Int32} {J0 : Nat → Nat → Int64} {L : List Nat} {κ ln : Nat → Nat} {R : Nat → Nat → Option Nat} {ow : Nat → Nat × Nat} {I : Nat → Nat → Int32} {J : Nat → Nat → Int64} {L2 : List Nat} {κ2 ln2 : Nat → Nat} {R2 : Nat → Nat → Option Nat} {ow2 : Nat → Nat × Nat} {I2 : Nat → Nat → Int32} {J2 : Nat → Nat → Int64} {a x f kd ed N i : Nat} (h : Lp_ a x f kd ed N i L0 κ0 ln0 R0 ow0 I0 J0 L κ ln R ow I J) (ha : a ∈ L) (hE : Ex L κ ln R ow I J L2 κ2 ln2 R2 ow2 I2 J2) (hn : ∀ b ∈ L2, b ∉ L → Gd L2 κ2 ln2 R2 ow2 I2 J2 b) : Lp_ a x f kd ed N i L0 κ0 ln0 R0 ow0 I0 J0 L2 κ2 ln2 R2 ow2 I2 J2 := by
  obtain ⟨h1, h2, h3, h4, h5, h6, h7, h8, h9, h10⟩ := h
  obtain ⟨x1, x2, x3, x4, x5, x6, -⟩ := hE x h3
  refine ⟨fun b hb => ?_, fun b hb hn0 hx => ?_, x1, h4, x2.trans h5, x3.trans h6, x4.trans h7, ((hE a ha).2.2.2.2.2.1 f).trans h8, fun j => (x5 j).trans (h9 j), fun k hk => ?_⟩
  · obtain ⟨a1, a2, a3, a4, a5⟩ := h1 b hb
    obtain ⟨b1, b2, b3, b4, b5, b6, b7⟩ := hE b a1
    exact ⟨b1, b2.trans a2, b3.trans a3, b4.trans a4, fun hne => ⟨fun j => (b5 j).trans ((a5 hne).1 j), fun j => (b6 j).trans ((a5 hne).2.1 j), fun j => (b7 j).trans ((a5 hne).2.2 j)⟩⟩
  · by_cases hL : b ∈ L
    · exact (h2 b hL hn0 hx).ex hL hE
    · exact hn b hb hL
  · obtain ⟨b, c1, c2, c3⟩ := h10 k hk
    obtain ⟨d1, d2, -⟩ := hE b c2
    exact ⟨b, (x6 k).trans c1, d1, d2.trans c3⟩
theorem Lp_.ast {L0 : List Nat} {κ0 ln0 : Nat → Nat} {R0 : Nat → Nat → Option Nat} {ow0 : Nat → Nat × Nat} {I0 : Nat → Nat → Int32} {J0 : Nat → Nat → Int64} {L : List Nat} {κ ln : Nat → Nat} {R : Nat → Nat → Option Nat} {ow : Nat → Nat × Nat} {I : Nat → Nat → Int32} {J : Nat → Nat → Int64} {a x f kd ed N i v : Nat} {R3 : Nat → Nat → Option Nat} (h : Lp_ a x f kd ed N i L0 κ0 ln0 R0 ow0 I0 J0 L κ ln R ow I J) (hax : a ≠ x) (hv : v ∈ L) (hkv : κ v = ed) (e : R3 = u2_ R x i (some v)) : Lp_ a x f kd ed N (i + 1) L0 κ0 ln0 R0 ow0 I0 J0 L κ ln R3 ow I J := by
  obtain ⟨h1, h2, h3, h4, h5, h6, h7, h8, h9, h10⟩ := h
  refine ⟨fun b hb => ?_, fun b hb hn0 hx => ?_, h3, h4, h5, h6, h7, by rw [e, u2_b hax]; exact h8, h9, fun k hk => ?_⟩
  · obtain ⟨a1, a2, a3, a4, a5⟩ := h1 b hb
    have hbx : b ≠ x := fun q => h4 (q ▸ hb)
    exact ⟨a1, a2, a3, a4, fun hne => ⟨(a5 hne).1, fun j => by rw [e, u2_b hbx]; exact (a5 hne).2.1 j, (a5 hne).2.2⟩⟩
  · exact Gd.same (a := a) (k := 0) (v := none) (x := 0) (h2 b hb hn0 hx) (fun j => by rw [e, u2_b hx]) (fun _ => rfl) (fun _ _ _ _ => rfl)
  · by_cases hki : k = i
    · subst hki; exact ⟨v, by rw [e]; exact u2_s, hv, hkv⟩
    · obtain ⟨b, c1, c2, c3⟩ := h10 k (by omega)
      exact ⟨b, by rw [e, u2_j hki]; exact c1, c2, c3⟩
theorem Lp_.putI {L0 : List Nat} {κ0 ln0 : Nat → Nat} {R0 : Nat → Nat → Option Nat} {ow0 : Nat → Nat × Nat} {I0 : Nat → Nat → Int32} {J0 : Nat → Nat → Int64} {L : List Nat} {κ ln : Nat → Nat} {R : Nat → Nat → Option Nat} {ow : Nat → Nat × Nat} {I : Nat → Nat → Int32} {J : Nat → Nat → Int64} {a x f kd ed N i k : Nat} {v : Int32} {I3 : Nat → Nat → Int32} (h : Lp_ a x f kd ed N i L0 κ0 ln0 R0 ow0 I0 J0 L κ ln R ow I J) (ha : a ∈ L0) (e : I3 = u2_ I a k v) : Lp_ a x f kd ed N i L0 κ0 ln0 R0 ow0 I0 J0 L κ ln R ow I3 J := by
  obtain ⟨h1, h2, h3, h4, h5, h6, h7, h8, h9, h10⟩ := h
  have hxa : x ≠ a := fun q => h4 (q ▸ ha)
  refine ⟨fun b hb => ?_, fun b hb hn0 hx => ?_, h3, h4, h5, h6, h7, h8, fun j => by rw [e, u2_b hxa]; exact h9 j, h10⟩
  · obtain ⟨a1, a2, a3, a4, a5⟩ := h1 b hb
    exact ⟨a1, a2, a3, a4, fun hne => ⟨fun j => by rw [e, u2_b hne]; exact (a5 hne).1 j, (a5 hne).2⟩⟩
  · have hne : b ≠ a := fun q => hn0 (q ▸ ha)
    exact Gd.same (a := a) (k := 0) (v := none) (x := 0) (h2 b hb hn0 hx) (fun _ => rfl) (fun j => by rw [e, u2_b hne]) (fun _ _ _ _ => rfl)
theorem Lp_.putR {L0 : List Nat} {κ0 ln0 : Nat → Nat} {R0 : Nat → Nat → Option Nat} {ow0 : Nat → Nat × Nat} {I0 : Nat → Nat → Int32} {J0 : Nat → Nat → Int64} {L : List Nat} {κ ln : Nat → Nat} {R : Nat → Nat → Option Nat} {ow : Nat → Nat × Nat} {I : Nat → Nat → Int32} {J : Nat → Nat → Int64} {a x f kd ed N i k : Nat} {v : Option Nat} {R3 : Nat → Nat → Option Nat} (h : Lp_ a x f kd ed N i L0 κ0 ln0 R0 ow0 I0 J0 L κ ln R ow I J) (ha : a ∈ L0) (hk : f ≠ k) (e : R3 = u2_ R a k v) : Lp_ a x f kd ed N i L0 κ0 ln0 R0 ow0 I0 J0 L κ ln R3 ow I J := by
  obtain ⟨h1, h2, h3, h4, h5, h6, h7, h8, h9, h10⟩ := h
  have hxa : x ≠ a := fun q => h4 (q ▸ ha)
  refine ⟨fun b hb => ?_, fun b hb hn0 hx => ?_, h3, h4, h5, h6, h7, by rw [e, u2_j hk]; exact h8, h9, fun k hk => ?_⟩
  · obtain ⟨a1, a2, a3, a4, a5⟩ := h1 b hb
    exact ⟨a1, a2, a3, a4, fun hne => ⟨(a5 hne).1, fun j => by rw [e, u2_b hne]; exact (a5 hne).2.1 j, (a5 hne).2.2⟩⟩
  · have hne : b ≠ a := fun q => hn0 (q ▸ ha)
    exact Gd.same (a := a) (k := 0) (v := none) (x := 0) (h2 b hb hn0 hx) (fun j => by rw [e, u2_b hne]) (fun _ => rfl) (fun _ _ _ _ => rfl)
  · obtain ⟨b, c1, c2⟩ := h10 k hk
    exact ⟨b, by rw [e, u2_b hxa]; exact c1, c2⟩
/-- the row is made and laid into its field -/
theorem Lp_.new {L0 : List Nat} {κ0 ln0 : Nat → Nat} {R0 : Nat → Nat → Option Nat} {ow0 : Nat → Nat × Nat} {I0 : Nat → Nat → Int32} {J0 : Nat → Nat → Int64} {L : List Nat} {κ ln : Nat → Nat} {R : Nat → Nat → Option Nat} {ow : Nat → Nat × Nat} {I : Nat → Nat → Int32} {J : Nat → Nat → Int64} {L2 : List Nat} {κ2 ln2 : Nat → Nat} {R2 : Nat → Nat → Option Nat} {ow2 : Nat → Nat × Nat} {I2 : Nat → Nat → Int32} {J2 : Nat → Nat → Int64} {a x f kd ed N : Nat} {R3 : Nat → Nat → Option Nat} (h : Md a L0 κ0 ln0 R0 ow0 I0 J0 L κ ln R ow I J) (ha : a ∈ L0) (hq : Nq L κ ln R ow I J L2 κ2 ln2 R2 ow2 I2 J2 x kd N (a, f)) (e : R3 = u2_ R2 a f (some x)) : Lp_ a x f kd ed N 0 L0 κ0 ln0 R0 ow0 I0 J0 L2 κ2 ln2 R3 ow2 I2 J2 := by
  obtain ⟨n1, n2, n3, n4, n5, n6, n7, n8, hE⟩ := hq
  have haL := (h.1 a ha).1
  have hxa : x ≠ a := fun q => n1 (q ▸ haL)
  refine ⟨fun b hb => ?_, fun b hb hn0 hx => ?_, n2, fun q => n1 ((h.1 x q).1), n4, n5, n6, by rw [e]; exact u2_s, n7, fun k hk => absurd hk (Nat.not_lt_zero k)⟩
  · obtain ⟨a1, a2, a3, a4, a5⟩ := h.1 b hb
    obtain ⟨b1, b2, b3, b4, b5, b6, b7⟩ := hE b a1
    exact ⟨b1, b2.trans a2, b3.trans a3, b4.trans a4, fun hne => ⟨fun j => (b5 j).trans ((a5 hne).1 j), fun j => by rw [e, u2_b hne]; exact (b6 j).trans ((a5 hne).2.1 j), fun j => (b7 j).trans ((a5 hne).2.2 j)⟩⟩
  · have hL : b ∈ L := (n3 b hb).resolve_right hx
    have hne : b ≠ a := fun q => hn0 (q ▸ ha)
    exact Gd.same (a := a) (k := 0) (v := none) (x := 0) ((h.2 b hL hn0).ex hL hE) (fun j => by rw [e, u2_b hne]) (fun _ => rfl) (fun _ _ _ _ => rfl)
/-- all its places are filled -/
theorem Lp_.fin {L0 : List Nat} {κ0 ln0 : Nat → Nat} {R0 : Nat → Nat → Option Nat} {ow0 : Nat → Nat × Nat} {I0 : Nat → Nat → Int32} {J0 : Nat → Nat → Int64} {L : List Nat} {κ ln : Nat → Nat} {R : Nat → Nat → Option Nat} {ow : Nat → Nat × Nat} {I : Nat → Nat → Int32} {J : Nat → Nat → Int64} {a x f kd ed N : Nat} (h : Lp_ a x f kd ed N N L0 κ0 ln0 R0 ow0 I0 J0 L κ ln R ow I J) (hk : kd = 17 ∧ ed = 1 ∨ kd = 18 ∧ ed = 3) : Md a L0 κ0 ln0 R0 ow0 I0 J0 L κ ln R ow I J ∧ Fa L κ ln R ow I a f kd N := by
  obtain ⟨h1, h2, h3, h4, h5, h6, h7, h8, h9, h10⟩ := h
  refine ⟨⟨h1, fun b hb hn0 => ?_⟩, ⟨x, h8, h3, h5, fun _ => ⟨h6, h7⟩⟩⟩
  by_cases hx : b = x
  · subst hx
    refine ⟨⟨fun k q hq h9 => ?_, fun hk2 i hi => ?_, fun hk2 i hi => ?_⟩, fun j => ?_, fun hk2 => absurd (h5.symm.trans hk2) (by rcases hk with ⟨e, -⟩ | ⟨e, -⟩ <;> subst e <;> decide), fun k2 hk2 => absurd hk2 (by rw [h5]; rcases hk with ⟨e, -⟩ | ⟨e, -⟩ <;> subst e <;> unfold own_ <;> omega)⟩
    · rw [h5] at hq
      rcases hk with ⟨e, -⟩ | ⟨e, -⟩ <;> subst e <;> simp [rt_] at hq
    · rw [h6] at hi
      obtain ⟨c, c1, c2, c3⟩ := h10 i hi
      rcases hk with ⟨e, e2⟩ | ⟨e, e2⟩
      · exact ⟨c, c1, c2, c3.trans e2⟩
      · rw [h5, e] at hk2; exact absurd hk2 (by decide)
    · rw [h6] at hi
      obtain ⟨c, c1, c2, c3⟩ := h10 i hi
      rcases hk with ⟨e, e2⟩ | ⟨e, e2⟩
      · rw [h5, e] at hk2; exact absurd hk2 (by decide)
      · exact ⟨c, c1, c2, c3.trans e2⟩
    · rw [h9, h5]
      rcases hk with ⟨e, -⟩ | ⟨e, -⟩ <;> subst e <;> simp [fv_]
  · exact h2 b hb hn0 hx
