/-! pools that grow -/
def AN_ (L : List Nat) (sz : Nat) : Nat → Prop := fun q => q ∈ L ∨ sz ≤ q
/-- fields of which the object there is one's own -/
def own_ (kd k : Nat) : Prop := (kd = 9 ∧ k = 0) ∨ (kd = 3 ∧ k = 0) ∨ (kd = 11 ∧ k = 1)
def Oh (L : List Nat) (R : Nat → Nat → Option Nat) (ow : Nat → Nat × Nat) (a k : Nat) : Prop := ∀ t, R a k = some t → t ∈ L ∧ ow t = (a, 0)
/-- an object or a row as a constructor leaves it -/
def Gd (L : List Nat) (κ ln : Nat → Nat) (R : Nat → Nat → Option Nat) (ow : Nat → Nat × Nat) (I : Nat → Nat → Int32) (J : Nat → Nat → Int64) (a : Nat) : Prop := Shp L κ ln R ow a ∧ (∀ j, I a j = fv_ (κ a) j) ∧ (κ a = 10 → ∀ w, R a 1 = some w → ∀ j : Nat, j < 28 → J w j = wk j) ∧ ∀ k, own_ (κ a) k → Oh L R ow a k
/-- the pool has grown, what was there is the same -/
def Ex (L : List Nat) (κ ln : Nat → Nat) (R : Nat → Nat → Option Nat) (ow : Nat → Nat × Nat) (I : Nat → Nat → Int32) (J : Nat → Nat → Int64) (L2 : List Nat) (κ2 ln2 : Nat → Nat) (R2 : Nat → Nat → Option Nat) (ow2 : Nat → Nat × Nat) (I2 : Nat → Nat → Int32) (J2 : Nat → Nat → Int64) : Prop := ∀ b ∈ L, b ∈ L2 ∧ κ2 b = κ b ∧ ln2 b = ln b ∧ ow2 b = ow b ∧ (∀ j, I2 b j = I b j) ∧ (∀ j, R2 b j = R b j) ∧ ∀ j, J2 b j = J b j
/-- one cell q has come, of kind kd, length N, owner o, with nothing in it -/
def Nq (L : List Nat) (κ ln : Nat → Nat) (R : Nat → Nat → Option Nat) (ow : Nat → Nat × Nat) (I : Nat → Nat → Int32) (J : Nat → Nat → Int64) (L2 : List Nat) (κ2 ln2 : Nat → Nat) (R2 : Nat → Nat → Option Nat) (ow2 : Nat → Nat × Nat) (I2 : Nat → Nat → Int32) (J2 : Nat → Nat → Int64) (q kd N : Nat) (o : Nat × Nat) : Prop := q ∉ L ∧ q ∈ L2 ∧ (∀ b ∈ L2, b ∈ L ∨ b = q) ∧ κ2 q = kd ∧ ln2 q = N ∧ ow2 q = o ∧ (∀ j, I2 q j = 0) ∧ (∀ j, R2 q j = none ∧ J2 q j = 0) ∧ Ex L κ ln R ow I J L2 κ2 ln2 R2 ow2 I2 J2
/-- a constructor at work on a: of what was there only a has changed; what is new is good -/
def Md (a : Nat) (L0 : List Nat) (κ0 ln0 : Nat → Nat) (R0 : Nat → Nat → Option Nat) (ow0 : Nat → Nat × Nat) (I0 : Nat → Nat → Int32) (J0 : Nat → Nat → Int64) (L : List Nat) (κ ln : Nat → Nat) (R : Nat → Nat → Option Nat) (ow : Nat → Nat × Nat) (I : Nat → Nat → Int32) (J : Nat → Nat → Int64) : Prop := (∀ b ∈ L0, b ∈ L ∧ κ b = κ0 b ∧ ln b = ln0 b ∧ ow b = ow0 b ∧ (b ≠ a → (∀ j, I b j = I0 b j) ∧ (∀ j, R b j = R0 b j) ∧ ∀ j, J b j = J0 b j)) ∧ ∀ b ∈ L, b ∉ L0 → Gd L κ ln R ow I J b
/-- a field of a that is laid -/
def Fa (L : List Nat) (κ ln : Nat → Nat) (R : Nat → Nat → Option Nat) (ow : Nat → Nat × Nat) (I : Nat → Nat → Int32) (a k t n : Nat) : Prop := ∃ b, R a k = some b ∧ b ∈ L ∧ κ b = t ∧ (13 ≤ t → ln b = n ∧ ow b = (a, k))
theorem Ex.rf {L : List Nat} {κ ln : Nat → Nat} {R : Nat → Nat → Option Nat} {ow : Nat → Nat × Nat} {I : Nat → Nat → Int32} {J : Nat → Nat → Int64} : Ex L κ ln R ow I J L κ ln R ow I J := fun b hb => ⟨hb, rfl, rfl, rfl, fun _ => rfl, fun _ => rfl, fun _ => rfl⟩
theorem Ex.tr {L : List Nat} {κ ln : Nat → Nat} {R : Nat → Nat → Option Nat} {ow : Nat → Nat × Nat} {I : Nat → Nat → Int32} {J : Nat → Nat → Int64} {L2 : List Nat} {κ2 ln2 : Nat → Nat} {R2 : Nat → Nat → Option Nat} {ow2 : Nat → Nat × Nat} {I2 : Nat → Nat → Int32} {J2 : Nat → Nat → Int64} {L3 : List Nat} {κ3 ln3 : Nat → Nat} {R3 : Nat → Nat → Option Nat} {ow3 : Nat → Nat × Nat} {I3 : Nat → Nat → Int32} {J3 : Nat → Nat → Int64} (h : Ex L κ ln R ow I J L2 κ2 ln2 R2 ow2 I2 J2) (h2 : Ex L2 κ2 ln2 R2 ow2 I2 J2 L3 κ3 ln3 R3 ow3 I3 J3) : Ex L κ ln R ow I J L3 κ3 ln3 R3 ow3 I3 J3 := fun b hb => by
  obtain ⟨a1, a2, a3, a4, a5, a6, a7⟩ := h b hb
  obtain ⟨b1, b2, b3, b4, b5, b6, b7⟩ := h2 b a1
  exact ⟨b1, b2.trans a2, b3.trans a3, b4.trans a4, fun j => (b5 j).trans (a5 j), fun j => (b6 j).trans (a6 j), fun j => (b7 j).trans (a7 j)⟩
section OWN
variable {L : List Nat} {κ ln : Nat → Nat} {R : Nat → Nat → Option Nat} {ow : Nat → Nat × Nat} {I : Nat → Nat → Int32} {J : Nat → Nat → Int64} {L2 : List Nat} {κ2 ln2 : Nat → Nat} {R2 : Nat → Nat → Option Nat} {ow2 : Nat → Nat × Nat} {I2 : Nat → Nat → Int32} {J2 : Nat → Nat → Int64} {a k q f : Nat}
theorem Oh.ex (h : Oh L R ow a k) (ha : a ∈ L) (hE : Ex L κ ln R ow I J L2 κ2 ln2 R2 ow2 I2 J2) : Oh L2 R2 ow2 a k := fun t ht => by
  rw [(hE a ha).2.2.2.2.2.1 k] at ht
  obtain ⟨p1, p2⟩ := h t ht
  exact ⟨(hE t p1).1, ((hE t p1).2.2.2.1).trans p2⟩
theorem Oh.put {v : Option Nat} (h : Oh L R ow a k) (e : R2 = u2_ R a f v) (hn : k ≠ f) : Oh L R2 ow a k := fun t ht => by
  rw [e, u2_j hn] at ht
  exact h t ht
theorem Oh.new (e : R2 = u2_ R a k (some q)) (hq : q ∈ L) (ho : ow q = (a, 0)) : Oh L R2 ow a k := fun t ht => by
  rw [e, u2_s] at ht
  cases ht
  exact ⟨hq, ho⟩
theorem own_9 (hk : κ a = 9) (h : own_ (κ a) k) (o : Oh L R ow a 0) : Oh L R ow a k := by
  rw [hk] at h
  rcases h with ⟨-, e⟩ | ⟨e, -⟩ | ⟨e, -⟩
  · rw [e]; exact o
  · omega
  · omega
theorem own_3 (hk : κ a = 3) (h : own_ (κ a) k) (o : Oh L R ow a 0) : Oh L R ow a k := by
  rw [hk] at h
  rcases h with ⟨e, -⟩ | ⟨-, e⟩ | ⟨e, -⟩
  · omega
  · rw [e]; exact o
  · omega
theorem own_11 (hk : κ a = 11) (h : own_ (κ a) k) (o : Oh L R ow a 1) : Oh L R ow a k := by
  rw [hk] at h
  rcases h with ⟨e, -⟩ | ⟨e, -⟩ | ⟨-, e⟩
  · omega
  · omega
  · rw [e]; exact o
end OWN
theorem Gd.ex {L : List Nat} {κ ln : Nat → Nat} {R : Nat → Nat → Option Nat} {ow : Nat → Nat × Nat} {I : Nat → Nat → Int32} {J : Nat → Nat → Int64} {L2 : List Nat} {κ2 ln2 : Nat → Nat} {R2 : Nat → Nat → Option Nat} {ow2 : Nat → Nat × Nat} {I2 : Nat → Nat → Int32} {J2 : Nat → Nat → Int64} {a : Nat} (h : Gd L κ ln R ow I J a) (ha : a ∈ L) (hE : Ex L κ ln R ow I J L2 κ2 ln2 R2 ow2 I2 J2) : Gd L2 κ2 ln2 R2 ow2 I2 J2 a := by
  obtain ⟨⟨s1, s2, s3⟩, hz, hw, ho⟩ := h
  obtain ⟨-, e2, e3, e4, e5, e6, -⟩ := hE a ha
  refine ⟨⟨fun k q hq h9 => ?_, fun hk i hi => ?_, fun hk i hi => ?_⟩, fun j => by rw [e5 j, e2]; exact hz j, fun hk w hR j hj => by
    rw [e2] at hk
    rw [e6] at hR
    obtain ⟨b, c1, c2, -⟩ := s1 1 (15, 28) (by rw [hk]; rfl) (by decide)
    rw [hR] at c1; cases c1
    rw [(hE w c2).2.2.2.2.2.2 j]
    exact hw hk w hR j hj, fun k hk t hR => by
    rw [e2] at hk
    rw [e6] at hR
    obtain ⟨p1, p2⟩ := ho k hk t hR
    exact ⟨(hE t p1).1, ((hE t p1).2.2.2.1).trans p2⟩⟩
  · rw [e2] at hq
    obtain ⟨b, h1, h2, h3, h4⟩ := s1 k q hq h9
    obtain ⟨c1, c2, c3, c4, -, -⟩ := hE b h2
    exact ⟨b, by rw [e6]; exact h1, c1, by rw [c2]; exact h3, fun h => ⟨by rw [c3]; exact (h4 h).1, by rw [c4]; exact (h4 h).2⟩⟩
  · rw [e2] at hk
    rw [e3] at hi
    obtain ⟨b, h1, h2, h3⟩ := s2 hk i hi
    obtain ⟨c1, c2, -⟩ := hE b h2
    exact ⟨b, by rw [e6]; exact h1, c1, by rw [c2]; exact h3⟩
  · rw [e2] at hk
    rw [e3] at hi
    obtain ⟨b, h1, h2, h3⟩ := s3 hk i hi
    obtain ⟨c1, c2, -⟩ := hE b h2
    exact ⟨b, by rw [e6]; exact h1, c1, by rw [c2]; exact h3⟩
theorem Fa.ex {L : List Nat} {κ ln : Nat → Nat} {R : Nat → Nat → Option Nat} {ow : Nat → Nat × Nat} {I : Nat → Nat → Int32} {J : Nat → Nat → Int64} {L2 : List Nat} {κ2 ln2 : Nat → Nat} {R2 : Nat → Nat → Option Nat} {ow2 : Nat → Nat × Nat} {I2 : Nat → Nat → Int32} {J2 : Nat → Nat → Int64} {a k t n : Nat} (h : Fa L κ ln R ow I a k t n) (ha : a ∈ L) (hE : Ex L κ ln R ow I J L2 κ2 ln2 R2 ow2 I2 J2) : Fa L2 κ2 ln2 R2 ow2 I2 a k t n := by
  obtain ⟨b, h1, h2, h3, h4⟩ := h
  obtain ⟨-, -, -, -, -, e6, -⟩ := hE a ha
  obtain ⟨c1, c2, c3, c4, -, -⟩ := hE b h2
  exact ⟨b, by rw [e6]; exact h1, c1, by rw [c2]; exact h3, fun h => ⟨by rw [c3]; exact (h4 h).1, by rw [c4]; exact (h4 h).2⟩⟩
theorem Fa.put {L : List Nat} {κ ln : Nat → Nat} {R : Nat → Nat → Option Nat} {ow : Nat → Nat × Nat} {I : Nat → Nat → Int32} {a k t n k2 v : Nat} {R3 : Nat → Nat → Option Nat} (h : Fa L κ ln R ow I a k t n) (e : R3 = u2_ R a k2 (some v)) (hk : k ≠ k2) : Fa L κ ln R3 ow I a k t n := by
  obtain ⟨b, h1, h2⟩ := h
  exact ⟨b, by rw [e, u2_j hk]; exact h1, h2⟩
theorem Fa.new {L : List Nat} {κ ln : Nat → Nat} {R : Nat → Nat → Option Nat} {ow : Nat → Nat × Nat} {I : Nat → Nat → Int32} {a k t n v : Nat} {R3 : Nat → Nat → Option Nat} (e : R3 = u2_ R a k (some v)) (h1 : v ∈ L) (h2 : κ v = t) (h3 : 13 ≤ t → ln v = n ∧ ow v = (a, k)) : Fa L κ ln R3 ow I a k t n := ⟨v, by rw [e]; exact u2_s, h1, h2, h3⟩
theorem Md.rf {L : List Nat} {κ ln : Nat → Nat} {R : Nat → Nat → Option Nat} {ow : Nat → Nat × Nat} {I : Nat → Nat → Int32} {J : Nat → Nat → Int64} {a : Nat} : Md a L κ ln R ow I J L κ ln R ow I J := ⟨fun b hb => ⟨hb, rfl, rfl, rfl, fun _ => ⟨fun _ => rfl, fun _ => rfl, fun _ => rfl⟩⟩, fun b hb h => absurd hb h⟩
theorem Md.ex {L0 : List Nat} {κ0 ln0 : Nat → Nat} {R0 : Nat → Nat → Option Nat} {ow0 : Nat → Nat × Nat} {I0 : Nat → Nat → Int32} {J0 : Nat → Nat → Int64} {L : List Nat} {κ ln : Nat → Nat} {R : Nat → Nat → Option Nat} {ow : Nat → Nat × Nat} {I : Nat → Nat → Int32} {J : Nat → Nat → Int64} {L2 : List Nat} {κ2 ln2 : Nat → Nat} {R2 : Nat → Nat → Option Nat} {ow2 : Nat → Nat × Nat} {I2 : Nat → Nat → Int32} {J2 : Nat → Nat → Int64} {a : Nat} (h : Md a L0 κ0 ln0 R0 ow0 I0 J0 L κ ln R ow I J) (hE : Ex L κ ln R ow I J L2 κ2 ln2 R2 ow2 I2 J2) (hn : ∀ b ∈ L2, b ∉ L → Gd L2 κ2 ln2 R2 ow2 I2 J2 b) : Md a L0 κ0 ln0 R0 ow0 I0 J0 L2 κ2 ln2 R2 ow2 I2 J2 := by
  refine ⟨fun b hb => ?_, fun b hb hn0 => ?_⟩
  · obtain ⟨a1, a2, a3, a4, a5⟩ := h.1 b hb
    obtain ⟨b1, b2, b3, b4, b5, b6, b7⟩ := hE b a1
    exact ⟨b1, b2.trans a2, b3.trans a3, b4.trans a4, fun hne => ⟨fun j => (b5 j).trans ((a5 hne).1 j), fun j => (b6 j).trans ((a5 hne).2.1 j), fun j => (b7 j).trans ((a5 hne).2.2 j)⟩⟩
  · by_cases hL : b ∈ L
    · exact (h.2 b hL hn0).ex hL hE
    · exact hn b hb hL
theorem Gd.same {L : List Nat} {κ ln : Nat → Nat} {R : Nat → Nat → Option Nat} {ow : Nat → Nat × Nat} {I : Nat → Nat → Int32} {J : Nat → Nat → Int64} {b a k : Nat} {v : Option Nat} {x : Int32} {R3 : Nat → Nat → Option Nat} {I3 : Nat → Nat → Int32} {J3 : Nat → Nat → Int64} (h : Gd L κ ln R ow I J b) (hR : ∀ j, R3 b j = R b j) (hI : ∀ j, I3 b j = I b j) (hJ : κ b = 10 → ∀ w, R b 1 = some w → ∀ j, J3 w j = J w j) : Gd L κ ln R3 ow I3 J3 b := by
  obtain ⟨⟨s1, s2, s3⟩, hz, hw, ho⟩ := h
  refine ⟨⟨fun k q hq h9 => ?_, fun hk i hi => ?_, fun hk i hi => ?_⟩, fun j => by rw [hI j]; exact hz j, fun hk w hR2 j hj => by rw [hR] at hR2; rw [hJ hk w hR2 j]; exact hw hk w hR2 j hj, fun k hk t hR2 => by rw [hR] at hR2; exact ho k hk t hR2⟩
  · obtain ⟨c, h1, h2⟩ := s1 k q hq h9
    exact ⟨c, by rw [hR]; exact h1, h2⟩
  · obtain ⟨c, h1, h2⟩ := s2 hk i hi
    exact ⟨c, by rw [hR]; exact h1, h2⟩
  · obtain ⟨c, h1, h2⟩ := s3 hk i hi
    exact ⟨c, by rw [hR]; exact h1, h2⟩
theorem Md.putR {L0 : List Nat} {κ0 ln0 : Nat → Nat} {R0 : Nat → Nat → Option Nat} {ow0 : Nat → Nat × Nat} {I0 : Nat → Nat → Int32} {J0 : Nat → Nat → Int64} {L : List Nat} {κ ln : Nat → Nat} {R : Nat → Nat → Option Nat} {ow : Nat → Nat × Nat} {I : Nat → Nat → Int32} {J : Nat → Nat → Int64} {a k : Nat} {v : Option Nat} {R3 : Nat → Nat → Option Nat} (h : Md a L0 κ0 ln0 R0 ow0 I0 J0 L κ ln R ow I J) (ha : a ∈ L0) (e : R3 = u2_ R a k v) : Md a L0 κ0 ln0 R0 ow0 I0 J0 L κ ln R3 ow I J := by
  refine ⟨fun b hb => ?_, fun b hb hn0 => ?_⟩
  · obtain ⟨a1, a2, a3, a4, a5⟩ := h.1 b hb
    exact ⟨a1, a2, a3, a4, fun hne => ⟨(a5 hne).1, fun j => by rw [e, u2_b hne]; exact (a5 hne).2.1 j, (a5 hne).2.2⟩⟩
  · have hne : b ≠ a := fun q => hn0 (q ▸ ha)
    exact Gd.same (a := a) (k := k) (v := v) (x := 0) (h.2 b hb hn0) (fun j => by rw [e, u2_b hne]) (fun _ => rfl) (fun _ _ _ _ => rfl)
theorem Md.putI {L0 : List Nat} {κ0 ln0 : Nat → Nat} {R0 : Nat → Nat → Option Nat} {ow0 : Nat → Nat × Nat} {I0 : Nat → Nat → Int32} {J0 : Nat → Nat → Int64} {L : List Nat} {κ ln : Nat → Nat} {R : Nat → Nat → Option Nat} {ow : Nat → Nat × Nat} {I : Nat → Nat → Int32} {J : Nat → Nat → Int64} {a k : Nat} {v : Int32} {I3 : Nat → Nat → Int32} (h : Md a L0 κ0 ln0 R0 ow0 I0 J0 L κ ln R ow I J) (ha : a ∈ L0) (e : I3 = u2_ I a k v) : Md a L0 κ0 ln0 R0 ow0 I0 J0 L κ ln R ow I3 J := by
  refine ⟨fun b hb => ?_, fun b hb hn0 => ?_⟩
  · obtain ⟨a1, a2, a3, a4, a5⟩ := h.1 b hb
    exact ⟨a1, a2, a3, a4, fun hne => ⟨fun j => by rw [e, u2_b hne]; exact (a5 hne).1 j, (a5 hne).2⟩⟩
  · have hne : b ≠ a := fun q => hn0 (q ▸ ha)
    exact Gd.same (a := a) (k := k) (v := none) (x := v) (h.2 b hb hn0) (fun _ => rfl) (fun j => by rw [e, u2_b hne]) (fun _ _ _ _ => rfl)
theorem Md.putJ {L0 : List Nat} {κ0 ln0 : Nat → Nat} {R0 : Nat → Nat → Option Nat} {ow0 : Nat → Nat × Nat} {I0 : Nat → Nat → Int32} {J0 : Nat → Nat → Int64} {L : List Nat} {κ ln : Nat → Nat} {R : Nat → Nat → Option Nat} {ow : Nat → Nat × Nat} {I : Nat → Nat → Int32} {J : Nat → Nat → Int64} {a b0 k : Nat} {v : Int64} {J3 : Nat → Nat → Int64} (h : Md a L0 κ0 ln0 R0 ow0 I0 J0 L κ ln R ow I J) (hb : b0 = a ∨ b0 ∉ L0) (hs : ∀ b, Gd L κ ln R ow I J b → b ∉ L0 → κ b = 10 → ∀ w, R b 1 = some w → w ≠ b0) (e : J3 = u2_ J b0 k v) : Md a L0 κ0 ln0 R0 ow0 I0 J0 L κ ln R ow I J3 := by
  refine ⟨fun b hb2 => ?_, fun b hb2 hn0 => ?_⟩
  · obtain ⟨a1, a2, a3, a4, a5⟩ := h.1 b hb2
    exact ⟨a1, a2, a3, a4, fun hne => ⟨(a5 hne).1, (a5 hne).2.1, fun j => by rw [e, u2_b (fun q => hb.elim (fun z => hne (q.trans z)) (fun z => z (q ▸ hb2)))]; exact (a5 hne).2.2 j⟩⟩
  · exact Gd.same (a := a) (k := k) (v := none) (x := 0) (h.2 b hb2 hn0) (fun _ => rfl) (fun _ => rfl) (fun q w hR j => by rw [e, u2_b (hs b (h.2 b hb2 hn0) hn0 q w hR)])
theorem Fa.putI {L : List Nat} {κ ln : Nat → Nat} {R : Nat → Nat → Option Nat} {ow : Nat → Nat × Nat} {I : Nat → Nat → Int32} {a k t n : Nat} {I3 : Nat → Nat → Int32} (h : Fa L κ ln R ow I a k t n) : Fa L κ ln R ow I3 a k t n := h
/-- a new row of numbers is good at once -/
theorem Nq.gd {L : List Nat} {κ ln : Nat → Nat} {R : Nat → Nat → Option Nat} {ow : Nat → Nat × Nat} {I : Nat → Nat → Int32} {J : Nat → Nat → Int64} {L2 : List Nat} {κ2 ln2 : Nat → Nat} {R2 : Nat → Nat → Option Nat} {ow2 : Nat → Nat × Nat} {I2 : Nat → Nat → Int32} {J2 : Nat → Nat → Int64} {q kd N : Nat} {o : Nat × Nat} (h : Nq L κ ln R ow I J L2 κ2 ln2 R2 ow2 I2 J2 q kd N o) (hk : 13 ≤ kd ∧ kd ≤ 16) : ∀ b ∈ L2, b ∉ L → Gd L2 κ2 ln2 R2 ow2 I2 J2 b := by
  obtain ⟨h1, h2, h3, h4, h5, h6, h7, h8, hE⟩ := h
  intro b hb hn
  rcases h3 b hb with h | rfl
  · exact absurd h hn
  · refine ⟨⟨fun k q hq h9 => ?_, fun hk2 => absurd (h4.symm.trans hk2) (by omega), fun hk2 => absurd (h4.symm.trans hk2) (by omega)⟩, fun j => ?_, fun hk2 => absurd (h4.symm.trans hk2) (by omega), fun k2 hk2 => absurd hk2 (by rw [h4]; unfold own_; omega)⟩
    · rw [h4] at hq
      rcases (show kd = 13 ∨ kd = 14 ∨ kd = 15 ∨ kd = 16 by omega) with e | e | e | e <;> subst e <;> simp [rt_] at hq
    · rw [h7, h4]
      rcases (show kd = 13 ∨ kd = 14 ∨ kd = 15 ∨ kd = 16 by omega) with e | e | e | e <;> subst e <;> simp [fv_]
def S9_ : Type := List Nat × (Nat → Nat) × (Nat → Nat) × (Nat → Nat → Option Nat) × (Nat → Nat → Int32) × (Nat → Nat → Int64)
def Qn_ (D : va_G) (cy : Nat → ClassId) (L : List Nat) (sz : Nat) (post : List Nat → (Nat → Nat) → (Nat → Nat) → (Nat → Nat → Option Nat) → (Nat → Nat → Int32) → (Nat → Nat → Int64) → Prop) : Array Value → State → Outcome → State → Prop := va_Qv (fun (u : S9_) => post u.1 u.2.1 u.2.2.1 u.2.2.2.1 u.2.2.2.2.1 u.2.2.2.2.2) (fun u t => Pu_ D cy u.1 u.2.1 u.2.2.1 u.2.2.2.1 u.2.2.2.2.1 u.2.2.2.2.2 t ∧ ∀ q ∈ u.1, q ∈ L ∨ sz ≤ q) (AN_ L sz)
def Pn_ (D : va_G) (cy : Nat → ClassId) (L : List Nat) (κ ln : Nat → Nat) (R : Nat → Nat → Option Nat) (I : Nat → Nat → Int32) (J : Nat → Nat → Int64) (E : Nat → State → Prop) (sz : Nat) (U : State) : Prop := U.heap.size = sz ∧ Pu_ D cy L κ ln R I J U ∧ E sz U
/-- a constructor's contract -/
def CtN (l : Launch) (y : MethodName) (cc : ByteArray) (nL : Nat) (rm : Room) (mc ms : Nat) (D : va_G) (cy : Nat → ClassId) (L : List Nat) (κ ln : Nat → Nat) (R : Nat → Nat → Option Nat) (I : Nat → Nat → Int32) (J : Nat → Nat → Int64) (E : Nat → State → Prop) (av : List Value) (post : List Nat → (Nat → Nat) → (Nat → Nat) → (Nat → Nat → Option Nat) → (Nat → Nat → Int32) → (Nat → Nat → Int64) → Prop) : Prop :=
  ∀ sz, Met l y (Cond.code y cc nL none :: GT) rm (va_Pc av (Pn_ D cy L κ ln R I J E sz)) (Qn_ D cy L sz post) mc ms (AN_ L sz)
theorem CtN.of {l : Launch} {y : MethodName} {cc : ByteArray} {nL : Nat} {rm : Room} {mc ms : Nat} {D : va_G} {cy : Nat → ClassId} {L : List Nat} {κ ln : Nat → Nat} {R : Nat → Nat → Option Nat} {I : Nat → Nat → Int32} {J : Nat → Nat → Int64} {E : Nat → State → Prop} {av : List Value} {post : List Nat → (Nat → Nat) → (Nat → Nat) → (Nat → Nat → Option Nat) → (Nat → Nat → Int32) → (Nat → Nat → Int64) → Prop} (hy : plainName y.cls = true) (hn : (lg_sl av).length ≤ nL)
    (body : ∀ p e s m below meth c, Bd_ p s m av.toArray meth c cc nL y none → Wc_ D cy (AN_ L s.heap.size) L s → E s.heap.size s → WG p l e rm s m av.toArray below meth c nL 0 0 (MQ below (Qn_ D cy L s.heap.size post) av.toArray s mc ms (AN_ L s.heap.size)) D cy (AN_ L s.heap.size) s.heap L κ ln R I J 0 (lv_args 0 av) []) : CtN l y cc nL rm mc ms D cy L κ ln R I J E av post := by
  intro sz
  refine Met.ofW (cc := cc) (maxL := nL) (ret := none) hy rfl ?_
  intro p e s m args below meth c s₁ B hml hv
  obtain ⟨rfl, hsz, ⟨hP, hK, hN⟩, hE⟩ := hv
  subst hsz
  have hts := atoms_spec (ws := Cond.code y cc nL none :: GT) B.pre
  have hb : Bd_ p s m av.toArray meth c cc nL y none := ⟨⟨B.exec, B.bytes, hml, findClass_of_methodNamed B.named, fun w hw => hts w (List.mem_cons_of_mem _ hw)⟩, B.returns, B.notSynchronized, (name_of_methodNamed B.named B.method).1⟩
  have h1 := body p e s m below meth c hb ⟨hN, fun q h => Or.inl h, hK⟩ hE
  rw [lg_entry_eq]
  exact h1 s.heap [] _ hP va_S.rf (lv_entry av hn)
theorem d_last {A : Nat → Prop} {ws : va_W} {q : Nat} {x : va_E} (h : va_D A (ws ++ [(q, x)])) : A q := h.2 ws.length (q, x) (by rw [List.getElem?_append_right (Nat.le_refl _), Nat.sub_self]; rfl)
section GN
variable {p : Program} {l : Launch} {e : Env} {Rm : Room} {s : State} {m : MethodId} {args : Array Value} {below : List Frame} {meth : Method} {c : Code} {cells slots : Nat} {Q : State → Prop}
variable {cc : ByteArray} {pc nL : Nat} {own : String} {D : va_G} {cy : Nat → ClassId} {A : Nat → Prop} {H0 : Heap} {L : List Nat} {κ ln : Nat → Nat} {R : Nat → Nat → Option Nat} {I : Nat → Nat → Int32} {J : Nat → Nat → Int64} {ow : Nat → Nat × Nat} {lo lo2 : List (Nat × Value)} {st : List Value}
def z2_ {α : Type} (f : Nat → Nat → α) (q : Nat) (v : α) : Nat → Nat → α := fun b j => if b = q then v else f b j
theorem z2_row {α : Type} {f : Nat → Nat → α} {q : Nat} {v : α} : z2_ f q v q = fun _ => v := by funext j; simp [z2_]
theorem nq_of {q kd N : Nat} {o : Nat × Nat} (hq : q ∉ L) : Nq L κ ln R ow I J (L ++ [q]) (va_up κ q kd) (va_up ln q N) (z2_ R q none) (va_up ow q o) (z2_ I q 0) (z2_ J q 0) q kd N o := by
  refine ⟨hq, by simp, fun b hb => by simpa using hb, va_up_self _ _ _, va_up_self _ _ _, va_up_self _ _ _, fun j => by simp [z2_], fun j => by simp [z2_], fun b hb => ?_⟩
  have hne : b ≠ q := fun h => hq (h ▸ hb)
  exact ⟨by simp [hb], va_up_ne _ _ hne, va_up_ne _ _ hne, va_up_ne _ _ hne, fun j => by simp [z2_, hne], fun j => by simp [z2_, hne], fun j => by simp [z2_, hne]⟩
theorem wc_grow (K : Wc_ D cy A L s) {q : Nat} (hq : q ∉ L) (hA : A q) : Wc_ D cy A (L ++ [q]) s := ⟨List.nodup_append.mpr ⟨K.1, by simp, fun a ha b hb => by simp at hb; subst hb; exact fun h => hq (h ▸ ha)⟩, fun b hb => by
  rcases List.mem_append.mp hb with h | h
  · exact K.2.1 b h
  · simp at h; subst h; exact hA, K.2.2⟩
theorem cel_new {q kd N : Nat} {x : va_E} (hq : q ∉ L) (hx : cel_ cy (va_up κ q kd) (va_up ln q N) (z2_ R q none) (z2_ I q 0) (z2_ J q 0) q = x) : va_pl L (cel_ cy κ ln R I J) ++ [(q, x)] = va_pl (L ++ [q]) (cel_ cy (va_up κ q kd) (va_up ln q N) (z2_ R q none) (z2_ I q 0) (z2_ J q 0)) := by
  rw [va_pl_push hq]
  refine va_pl_congr (fun b => ?_)
  by_cases hb : b = q
  · subst hb; rw [va_up_self, hx]
  · rw [va_up_ne _ _ hb]; exact cel_cong (va_up_ne _ _ hb).symm (va_up_ne _ _ hb).symm (fun j => by simp [z2_, hb]) (fun j => by simp [z2_, hb]) (fun j => by simp [z2_, hb])
theorem fs_zero {q : Nat} : ∀ (l : List Nat) (k : Nat), fs_ (z2_ I q 0) (z2_ J q 0) (z2_ R q none) q k l = fs_ (fun _ _ => 0) (fun _ _ => 0) (fun _ _ => none) 0 k l
  | [], _ => rfl
  | t :: l, k => by simp only [fs_, fs_zero l (k + 1)]; congr 1; simp [sv_, z2_]
theorem a_new (C : CallFix p m c cc nL s args GT own) (K : Wc_ D cy A L s) (hA : ∀ q, H0.size ≤ q → A q) (o : Nat × Nat) {ci idx N : Nat} {Cn : String} {T : u_T} (hci : ci < 13) (hcl : vwCl[ci]? = some (Cn, T, N)) (hin : ∀ w ∈ u_ws Cn T N, w ∈ GT) (ty : Nat → FieldType) (hty : ∀ k, k < N → parseFieldDescriptor (T k).2.2.1 = some (ty k)) (hw : Cond.classLink own idx Cn ∈ GT ∧ Cond.instantiable Cn N ∈ GT ∧ Cond.initialized Cn ∈ GT) (hfs : ∀ j, j < N → defaultValue (ty j) = vp_V (fs_ (fun _ _ => 0) (fun _ _ => 0) (fun _ _ => none) 0 0 (fk_.getD ci [])) j) (hc : cells + 1 ≤ Rm.cells ∧ slots + N ≤ Rm.slots) (hd : decode cc pc = .ok (.new idx, 3)) (kk : ∀ (q : Nat) (L2 : List Nat) (κ2 ln2 : Nat → Nat) (R2 : Nat → Nat → Option Nat) (I2 : Nat → Nat → Int32) (J2 : Nat → Nat → Int64) (ow2 : Nat → Nat × Nat), Nq L κ ln R ow I J L2 κ2 ln2 R2 ow2 I2 J2 q ci N o → Wc_ D cy A L2 s → WG p l e Rm s m args below meth c nL (cells + 1) (slots + N) Q D cy A H0 L2 κ2 ln2 R2 I2 J2 (pc + 3) lo (.ref q :: st)) : WG p l e Rm s m args below meth c nL cells slots Q D cy A H0 L κ ln R I J pc lo st := by
  intro H locs ls hP hS hl
  refine va_new (fs := fs_ (fun _ _ => 0) (fun _ _ => 0) (fun _ _ => none) 0 0 (fk_.getD ci [])) C.1 C.2.1 C.2.2.2.2 hin ty hty C.2.2.2.1 (C.2.2.2.2 _ hw.1) (C.2.2.2.2 _ hw.2.1) (C.2.2.2.2 _ hw.2.2) K.2.2 hP (pl_D K.1 K.2.1 _) hS hA hcl hfs hc.1 hc.2 hd (fun q H1 hP1 hD1 hS1 => ?_)
  have hq : q ∉ L := va_pl_fresh2 (X := []) (by simpa using hD1)
  have hAq : A q := d_last hD1
  rw [cel_new (N := N) (kd := ci) hq (by rw [cel_o (va_up_self _ _ _) hci, fs_zero])] at hP1
  exact kk q _ _ _ _ _ _ _ (nq_of hq) (wc_grow K hq hAq) H1 locs ls hP1 hS1 hl
theorem a_newI (C : CallFix p m c cc nL s args GT own) (K : Wc_ D cy A L s) (hA : ∀ q, H0.size ≤ q → A q) (o : Nat × Nat) {n : Int32} (N : Nat) (hN : n.toNatClampNeg = N) (h0 : ¬ n < 0) (hby : N * componentBytes .int ≤ 536870912) (hw : Cond.arrayClass .int ∈ GT) (hc : cells + 1 ≤ Rm.cells ∧ slots + N ≤ Rm.slots) (hd : decode cc pc = .ok (.newarray .int, 2)) (kk : ∀ (q : Nat) (L2 : List Nat) (κ2 ln2 : Nat → Nat) (R2 : Nat → Nat → Option Nat) (I2 : Nat → Nat → Int32) (J2 : Nat → Nat → Int64) (ow2 : Nat → Nat × Nat), Nq L κ ln R ow I J L2 κ2 ln2 R2 ow2 I2 J2 q 14 N o → Wc_ D cy A L2 s → WG p l e Rm s m args below meth c nL (cells + 1) (slots + N) Q D cy A H0 L2 κ2 ln2 R2 I2 J2 (pc + 2) lo (.ref q :: st)) : WG p l e Rm s m args below meth c nL cells slots Q D cy A H0 L κ ln R I J pc lo (.int n :: st) := by
  intro H locs ls hP hS hl
  refine va_newa (atype := .int) (ty := .int) (a0 := (N, .inl (fun _ => 0))) C.1 C.2.1 (C.2.2.2.2 _ hw) rfl K.2.2 hP (pl_D K.1 K.2.1 _) hS hA (fun cA => rfl) h0 hN hby hc.1 hc.2 hd (fun q cA H1 hK1 hP1 hD1 hS1 => ?_)
  have hq : q ∉ L := va_pl_fresh2 (X := []) (by simpa using hD1)
  have hAq : A q := d_last hD1
  have e1 : cA = cy 14 := by
    have f1 := (hK1.2 (tys_ cy).length (cA, .int) (by rw [List.getElem?_append_right (Nat.le_refl _), Nat.sub_self]; rfl)).2
    have f2 := (K.2.2.2 1 (cy 14, .int) rfl).2
    exact Option.some.inj (f1.symm.trans f2)
  rw [e1, cel_new (N := N) (kd := 14) hq (by rw [cel_i (va_up_self _ _ _) (by decide), va_up_self, z2_row])] at hP1
  exact kk q _ _ _ _ _ _ _ (nq_of hq) (wc_grow K hq hAq) H1 locs ls hP1 hS1 hl
theorem a_newB (C : CallFix p m c cc nL s args GT own) (K : Wc_ D cy A L s) (hA : ∀ q, H0.size ≤ q → A q) (o : Nat × Nat) {n : Int32} (N : Nat) (hN : n.toNatClampNeg = N) (h0 : ¬ n < 0) (hby : N * componentBytes .byte ≤ 536870912) (hw : Cond.arrayClass .byte ∈ GT) (hc : cells + 1 ≤ Rm.cells ∧ slots + N ≤ Rm.slots) (hd : decode cc pc = .ok (.newarray .byte, 2)) (kk : ∀ (q : Nat) (L2 : List Nat) (κ2 ln2 : Nat → Nat) (R2 : Nat → Nat → Option Nat) (I2 : Nat → Nat → Int32) (J2 : Nat → Nat → Int64) (ow2 : Nat → Nat × Nat), Nq L κ ln R ow I J L2 κ2 ln2 R2 ow2 I2 J2 q 13 N o → Wc_ D cy A L2 s → WG p l e Rm s m args below meth c nL (cells + 1) (slots + N) Q D cy A H0 L2 κ2 ln2 R2 I2 J2 (pc + 2) lo (.ref q :: st)) : WG p l e Rm s m args below meth c nL cells slots Q D cy A H0 L κ ln R I J pc lo (.int n :: st) := by
  intro H locs ls hP hS hl
  refine va_newa (atype := .byte) (ty := .byte) (a0 := (N, .inl (fun _ => 0))) C.1 C.2.1 (C.2.2.2.2 _ hw) rfl K.2.2 hP (pl_D K.1 K.2.1 _) hS hA (fun cA => rfl) h0 hN hby hc.1 hc.2 hd (fun q cA H1 hK1 hP1 hD1 hS1 => ?_)
  have hq : q ∉ L := va_pl_fresh2 (X := []) (by simpa using hD1)
  have hAq : A q := d_last hD1
  have e1 : cA = cy 13 := by
    have f1 := (hK1.2 (tys_ cy).length (cA, .byte) (by rw [List.getElem?_append_right (Nat.le_refl _), Nat.sub_self]; rfl)).2
    have f2 := (K.2.2.2 0 (cy 13, .byte) rfl).2
    exact Option.some.inj (f1.symm.trans f2)
  rw [e1, cel_new (N := N) (kd := 13) hq (by rw [cel_i (va_up_self _ _ _) (by decide), va_up_self, z2_row])] at hP1
  exact kk q _ _ _ _ _ _ _ (nq_of hq) (wc_grow K hq hAq) H1 locs ls hP1 hS1 hl
theorem a_newZ (C : CallFix p m c cc nL s args GT own) (K : Wc_ D cy A L s) (hA : ∀ q, H0.size ≤ q → A q) (o : Nat × Nat) {n : Int32} (N : Nat) (hN : n.toNatClampNeg = N) (h0 : ¬ n < 0) (hby : N * componentBytes .boolean ≤ 536870912) (hw : Cond.arrayClass .boolean ∈ GT) (hc : cells + 1 ≤ Rm.cells ∧ slots + N ≤ Rm.slots) (hd : decode cc pc = .ok (.newarray .boolean, 2)) (kk : ∀ (q : Nat) (L2 : List Nat) (κ2 ln2 : Nat → Nat) (R2 : Nat → Nat → Option Nat) (I2 : Nat → Nat → Int32) (J2 : Nat → Nat → Int64) (ow2 : Nat → Nat × Nat), Nq L κ ln R ow I J L2 κ2 ln2 R2 ow2 I2 J2 q 16 N o → Wc_ D cy A L2 s → WG p l e Rm s m args below meth c nL (cells + 1) (slots + N) Q D cy A H0 L2 κ2 ln2 R2 I2 J2 (pc + 2) lo (.ref q :: st)) : WG p l e Rm s m args below meth c nL cells slots Q D cy A H0 L κ ln R I J pc lo (.int n :: st) := by
  intro H locs ls hP hS hl
  refine va_newa (atype := .boolean) (ty := .boolean) (a0 := (N, .inl (fun _ => 0))) C.1 C.2.1 (C.2.2.2.2 _ hw) rfl K.2.2 hP (pl_D K.1 K.2.1 _) hS hA (fun cA => rfl) h0 hN hby hc.1 hc.2 hd (fun q cA H1 hK1 hP1 hD1 hS1 => ?_)
  have hq : q ∉ L := va_pl_fresh2 (X := []) (by simpa using hD1)
  have hAq : A q := d_last hD1
  have e1 : cA = cy 16 := by
    have f1 := (hK1.2 (tys_ cy).length (cA, .boolean) (by rw [List.getElem?_append_right (Nat.le_refl _), Nat.sub_self]; rfl)).2
    have f2 := (K.2.2.2 3 (cy 16, .boolean) rfl).2
    exact Option.some.inj (f1.symm.trans f2)
  rw [e1, cel_new (N := N) (kd := 16) hq (by rw [cel_i (va_up_self _ _ _) (by decide), va_up_self, z2_row])] at hP1
  exact kk q _ _ _ _ _ _ _ (nq_of hq) (wc_grow K hq hAq) H1 locs ls hP1 hS1 hl
theorem a_newJ (C : CallFix p m c cc nL s args GT own) (K : Wc_ D cy A L s) (hA : ∀ q, H0.size ≤ q → A q) (o : Nat × Nat) {n : Int32} (N : Nat) (hN : n.toNatClampNeg = N) (h0 : ¬ n < 0) (hby : N * componentBytes .long ≤ 536870912) (hw : Cond.arrayClass .long ∈ GT) (hc : cells + 1 ≤ Rm.cells ∧ slots + N ≤ Rm.slots) (hd : decode cc pc = .ok (.newarray .long, 2)) (kk : ∀ (q : Nat) (L2 : List Nat) (κ2 ln2 : Nat → Nat) (R2 : Nat → Nat → Option Nat) (I2 : Nat → Nat → Int32) (J2 : Nat → Nat → Int64) (ow2 : Nat → Nat × Nat), Nq L κ ln R ow I J L2 κ2 ln2 R2 ow2 I2 J2 q 15 N o → Wc_ D cy A L2 s → WG p l e Rm s m args below meth c nL (cells + 1) (slots + N) Q D cy A H0 L2 κ2 ln2 R2 I2 J2 (pc + 2) lo (.ref q :: st)) : WG p l e Rm s m args below meth c nL cells slots Q D cy A H0 L κ ln R I J pc lo (.int n :: st) := by
  intro H locs ls hP hS hl
  refine va_newa (atype := .long) (ty := .long) (a0 := (N, .inr (.inl (fun _ => 0)))) C.1 C.2.1 (C.2.2.2.2 _ hw) rfl K.2.2 hP (pl_D K.1 K.2.1 _) hS hA (fun cA => rfl) h0 hN hby hc.1 hc.2 hd (fun q cA H1 hK1 hP1 hD1 hS1 => ?_)
  have hq : q ∉ L := va_pl_fresh2 (X := []) (by simpa using hD1)
  have hAq : A q := d_last hD1
  have e1 : cA = cy 15 := by
    have f1 := (hK1.2 (tys_ cy).length (cA, .long) (by rw [List.getElem?_append_right (Nat.le_refl _), Nat.sub_self]; rfl)).2
    have f2 := (K.2.2.2 2 (cy 15, .long) rfl).2
    exact Option.some.inj (f1.symm.trans f2)
  rw [e1, cel_new (N := N) (kd := 15) hq (by rw [cel_l (va_up_self _ _ _), va_up_self, z2_row])] at hP1
  exact kk q _ _ _ _ _ _ _ (nq_of hq) (wc_grow K hq hAq) H1 locs ls hP1 hS1 hl
theorem a_newqC (C : CallFix p m c cc nL s args GT own) (K : Wc_ D cy A L s) (hA : ∀ q, H0.size ≤ q → A q) (o : Nat × Nat) {n : Int32} {idx : Nat} (N : Nat) (hN : n.toNatClampNeg = N) (h0 : ¬ n < 0) (hby : N * 4 ≤ 536870912) (hcl : Cond.classLink own idx RX1 ∈ GT) (hao : va_AO RX1 s) (hc : cells + 1 ≤ Rm.cells ∧ slots + N ≤ Rm.slots) (hd : decode cc pc = .ok (.anewarray idx, 3)) (kk : ∀ (q : Nat) (L2 : List Nat) (κ2 ln2 : Nat → Nat) (R2 : Nat → Nat → Option Nat) (I2 : Nat → Nat → Int32) (J2 : Nat → Nat → Int64) (ow2 : Nat → Nat × Nat), Nq L κ ln R ow I J L2 κ2 ln2 R2 ow2 I2 J2 q 17 N o → Wc_ D cy A L2 s → WG p l e Rm s m args below meth c nL (cells + 1) (slots + N) Q D cy A H0 L2 κ2 ln2 R2 I2 J2 (pc + 3) lo (.ref q :: st)) : WG p l e Rm s m args below meth c nL cells slots Q D cy A H0 L κ ln R I J pc lo (.int n :: st) := by
  intro H locs ls hP hS hl
  refine va_newq C.1 C.2.1 C.2.2.2.1 (C.2.2.2.2 _ hcl) hao K.2.2 hP (pl_D K.1 K.2.1 _) hS hA h0 hN hby hc.1 hc.2 hd (fun q cA H1 hK1 hP1 hD1 hS1 => ?_)
  have hq : q ∉ L := va_pl_fresh2 (X := []) (by simpa using hD1)
  have hAq : A q := d_last hD1
  have e1 : cA = cy 17 := by
    obtain ⟨kA, comp, -, -, -, f1⟩ := (hK1.2 (tys_ cy).length (cA, .object RX1) (by rw [List.getElem?_append_right (Nat.le_refl _), Nat.sub_self]; rfl)).2
    obtain ⟨kA2, comp2, -, -, -, f2⟩ := (K.2.2.2 4 (cy 17, .object RX1) rfl).2
    exact Option.some.inj (f1.symm.trans f2)
  rw [e1, cel_new (N := N) (kd := 17) hq (by rw [cel_r (va_up_self _ _ _) (by decide), va_up_self, z2_row])] at hP1
  exact kk q _ _ _ _ _ _ _ (nq_of hq) (wc_grow K hq hAq) H1 locs ls hP1 hS1 hl
theorem a_newqI (C : CallFix p m c cc nL s args GT own) (K : Wc_ D cy A L s) (hA : ∀ q, H0.size ≤ q → A q) (o : Nat × Nat) {n : Int32} {idx : Nat} (N : Nat) (hN : n.toNatClampNeg = N) (h0 : ¬ n < 0) (hby : N * 4 ≤ 536870912) (hcl : Cond.classLink own idx RX3 ∈ GT) (hao : va_AO RX3 s) (hc : cells + 1 ≤ Rm.cells ∧ slots + N ≤ Rm.slots) (hd : decode cc pc = .ok (.anewarray idx, 3)) (kk : ∀ (q : Nat) (L2 : List Nat) (κ2 ln2 : Nat → Nat) (R2 : Nat → Nat → Option Nat) (I2 : Nat → Nat → Int32) (J2 : Nat → Nat → Int64) (ow2 : Nat → Nat × Nat), Nq L κ ln R ow I J L2 κ2 ln2 R2 ow2 I2 J2 q 18 N o → Wc_ D cy A L2 s → WG p l e Rm s m args below meth c nL (cells + 1) (slots + N) Q D cy A H0 L2 κ2 ln2 R2 I2 J2 (pc + 3) lo (.ref q :: st)) : WG p l e Rm s m args below meth c nL cells slots Q D cy A H0 L κ ln R I J pc lo (.int n :: st) := by
  intro H locs ls hP hS hl
  refine va_newq C.1 C.2.1 C.2.2.2.1 (C.2.2.2.2 _ hcl) hao K.2.2 hP (pl_D K.1 K.2.1 _) hS hA h0 hN hby hc.1 hc.2 hd (fun q cA H1 hK1 hP1 hD1 hS1 => ?_)
  have hq : q ∉ L := va_pl_fresh2 (X := []) (by simpa using hD1)
  have hAq : A q := d_last hD1
  have e1 : cA = cy 18 := by
    obtain ⟨kA, comp, -, -, -, f1⟩ := (hK1.2 (tys_ cy).length (cA, .object RX3) (by rw [List.getElem?_append_right (Nat.le_refl _), Nat.sub_self]; rfl)).2
    obtain ⟨kA2, comp2, -, -, -, f2⟩ := (K.2.2.2 5 (cy 18, .object RX3) rfl).2
    exact Option.some.inj (f1.symm.trans f2)
  rw [e1, cel_new (N := N) (kd := 18) hq (by rw [cel_r (va_up_self _ _ _) (by decide), va_up_self, z2_row])] at hP1
  exact kk q _ _ _ _ _ _ _ (nq_of hq) (wc_grow K hq hAq) H1 locs ls hP1 hS1 hl
theorem a_wide {k n : Nat} (h1 : cells ≤ k) (h2 : slots ≤ n) (kk : WG p l e Rm s m args below meth c nL k n Q D cy A H0 L κ ln R I J pc lo st) : WG p l e Rm s m args below meth c nL cells slots Q D cy A H0 L κ ln R I J pc lo st := fun H locs ls hP hS hl => W.widen h1 h2 (kk H locs ls hP hS hl)
theorem a_obj (C : CallFix p m c cc nL s args GT own) {a idx : Nat} (hw : Cond.methodLink own idx Lib.objectInit ∈ GT ∧ Cond.instanceMethod Lib.objectInit ∈ GT ∧ Cond.code Lib.objectInit ⟨#[0xb1]⟩ 1 none ∈ GT) (hfr : 1 ≤ Rm.frames) (hlc : (st.map fun v => v.category).sum + 12 ≤ Rm.locals) (hd : decode cc pc = .ok (.invokespecial idx, 3)) (kk : WG p l e Rm s m args below meth c nL cells slots Q D cy A H0 L κ ln R I J (pc + 3) lo st) : WG p l e Rm s m args below meth c nL cells slots Q D cy A H0 L κ ln R I J pc lo (.ref a :: st) := by
  intro H locs ls hP hS hl
  refine W.objInit (a := a) (rest := st) C.1 C.2.1 C.2.2.2.1 (C.2.2.2.2 _ hw.1) (C.2.2.2.2 _ hw.2.1) (C.2.2.2.2 _ hw.2.2) rfl (by rw [C.2.2.1]; exact hl.1) rfl hd hfr (by simpa [JFrame.monitorRoom] using hlc) ?_
  exact kk H locs ls hP hS hl
theorem a_vret {y : MethodName} {mc ms : Nat} {L0 : List Nat} {post : List Nat → (Nat → Nat) → (Nat → Nat) → (Nat → Nat → Option Nat) → (Nat → Nat → Int32) → (Nat → Nat → Int64) → Prop} (B : Bd_ p s m args meth c cc nL y none) (K : Wc_ D cy (AN_ L0 s.heap.size) L s) (hp : post L κ ln R I J) (hd : decode cc pc = .ok (.return_, 1)) : WG p l e Rm s m args below meth c nL mc ms (MQ below (Qn_ D cy L0 s.heap.size post) args s mc ms (AN_ L0 s.heap.size)) D cy (AN_ L0 s.heap.size) s.heap L κ ln R I J pc lo [] := by
  intro H locs ls hP hS hl
  exact W.vret B.1.1 B.1.2.1 B.2.1 (fun t ht hW => ⟨⟨(L, κ, ln, R, I, J), rfl, hp, ⟨by rw [ht]; exact hP, va_K.moved hW.alike K.2.2, K.1⟩, fun q hq => K.2.1 q hq⟩, hS.F ht⟩) hS.2.2 hd (hlocks := B.2.2.1)
end GN
