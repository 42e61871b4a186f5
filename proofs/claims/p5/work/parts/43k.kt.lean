/-! tables of the class: which are kept -/
/-- all tables but those told are kept: their numbers and parents -/
def Kt_ (L : List Nat) (κ : Nat → Nat) (R : Nat → Nat → Option Nat) (I I2 : Nat → Nat → Int32) (ts : List Nat) : Prop := ∀ c, c ∈ L → κ c = 8 → c ∉ ts → (∀ j, 5 ≤ j → j < 9 → I2 c j = I c j) ∧ ∀ q, R c 2 = some q → ∀ j, I2 q j = I q j
/-- t has become as s was -/
def Sc_ (R : Nat → Nat → Option Nat) (I I2 : Nat → Nat → Int32) (t s : Nat) : Prop := (∀ j, 5 ≤ j → j < 9 → I2 t j = I s j) ∧ ∀ q b, R t 2 = some q → R s 2 = some b → ∀ j, j < 7 → I2 q j = I b j
/-- a table's numbers and parents -/
def Ct_ (R : Nat → Nat → Option Nat) (I : Nat → Nat → Int32) (h : Nat) (b : TB_) : Prop := (I h 5 = b.persons ∧ I h 6 = b.dishes ∧ I h 7 = b.law ∧ I h 8 = b.dogs) ∧ ∀ q, R h 2 = some q → ∀ j : Nat, j < 7 → I q j = b.par j
/-- the table that has been read, if there is one -/
def fTableB (t : TP_) (b : TB_) (c : CP_) (x : XP_) : Option TB_ := let q := fReadFrom t b c x; if q.2.1.fault = 0 then some q.2.2.1 else none
section KT
variable {L : List Nat} {κ ln : Nat → Nat} {R : Nat → Nat → Option Nat} {ow : Nat → Nat × Nat} {I I1 I2 : Nat → Nat → Int32} {ts ts2 : List Nat} {a t r : Nat} {T : List Nat}
theorem kt_rf : Kt_ L κ R I I ts := fun _ _ _ _ => ⟨fun _ _ _ => rfl, fun _ _ _ => rfl⟩
theorem kt_row (W9 : ∀ a ∈ L, Shp L κ ln R ow a) {c q : Nat} (hc : c ∈ L) (hk : κ c = 8) (hq : R c 2 = some q) : q ∈ L ∧ κ q = 14 ∧ ow q = (c, 2) ∧ ro_ κ ow q = 582 := by
  obtain ⟨b, h1, h2, h3, -, h5⟩ := shp_a (W9 c hc) hk 2 14 7 rfl (by decide)
  rw [hq] at h1; cases h1
  exact ⟨h2, h3, h5, ro_a h3 (by decide) h5 hk rfl⟩
theorem kt_g (W9 : ∀ a ∈ L, Shp L κ ln R ow a) (h : Kt_ L κ R I I1 ts) (e : ∀ c, c ≠ a → ∀ j, I2 c j = I1 c j) (ha : (κ a < 13 ∧ κ a ≠ 8) ∨ (a ∈ ts ∧ κ a = 8) ∨ (ro_ κ ow a = r ∧ r ≠ 582 ∧ 13 ≤ r) ∨ (∃ t, t ∈ ts ∧ ow a = (t, 2) ∧ κ a = 14)) : Kt_ L κ R I I2 ts := fun c hc hk hn => by
  have n1 : c ≠ a := fun q => by
    subst q
    rcases ha with ⟨-, h1⟩ | ⟨h1, -⟩ | ⟨h1, h2, h3⟩ | ⟨t, -, -, h3⟩
    · exact h1 hk
    · exact hn h1
    · rw [ro_o hk (by decide)] at h1; omega
    · omega
  obtain ⟨p1, p2⟩ := h c hc hk hn
  refine ⟨fun j h1 h2 => (e c n1 j).trans (p1 j h1 h2), fun q hq j => ?_⟩
  obtain ⟨q1, q2, q3, q4⟩ := kt_row W9 hc hk hq
  refine (e q (fun z => ?_) j).trans (p2 q hq j)
  subst z
  rcases ha with ⟨h1, -⟩ | ⟨-, h1⟩ | ⟨h1, h2, h3⟩ | ⟨t, h1, h2, h3⟩
  · omega
  · omega
  · rw [q4] at h1; omega
  · rw [q3] at h2; cases h2; exact hn h1
theorem kt_u (W9 : ∀ a ∈ L, Shp L κ ln R ow a) {k : Nat} {v : Int32} (h : Kt_ L κ R I I1 ts) (e : I2 = u2_ I1 a k v) (ha : (κ a < 13 ∧ κ a ≠ 8) ∨ (a ∈ ts ∧ κ a = 8) ∨ (ro_ κ ow a = r ∧ r ≠ 582 ∧ 13 ≤ r) ∨ (∃ t, t ∈ ts ∧ ow a = (t, 2) ∧ κ a = 14)) : Kt_ L κ R I I2 ts := kt_g W9 h (fun c hc j => by rw [e, u2_b hc]) ha
theorem kt_k (W9 : ∀ a ∈ L, Shp L κ ln R ow a) {b n : Nat} (h : Kt_ L κ R I I1 ts) (e : I2 = k2_ I1 b a n) (ha : (κ a < 13 ∧ κ a ≠ 8) ∨ (a ∈ ts ∧ κ a = 8) ∨ (ro_ κ ow a = r ∧ r ≠ 582 ∧ 13 ≤ r) ∨ (∃ t, t ∈ ts ∧ ow a = (t, 2) ∧ κ a = 14)) : Kt_ L κ R I I2 ts := kt_g W9 h (fun c hc j => by rw [e, k2_b hc]) ha
theorem kt_fq (W9 : ∀ a ∈ L, Shp L κ ln R ow a) (h : Kt_ L κ R I I1 ts) (hF : Fq L κ ow T I1 I2) (hT : 805 ∉ T ∧ 806 ∉ T ∧ 807 ∉ T ∧ 808 ∉ T ∧ 58200 ∉ T) : Kt_ L κ R I I2 ts := fun c hc hk hn => by
  obtain ⟨p1, p2⟩ := h c hc hk hn
  refine ⟨fun j h1 h2 => (hF c hc j ?_).trans (p1 j h1 h2), fun q hq j => ?_⟩
  · rw [ro_o hk (by decide), tg_, if_pos (by decide)]
    rcases (show j = 5 ∨ j = 6 ∨ j = 7 ∨ j = 8 by omega) with e | e | e | e <;> subst e
    · exact hT.1
    · exact hT.2.1
    · exact hT.2.2.1
    · exact hT.2.2.2.1
  · obtain ⟨q1, q2, q3, q4⟩ := kt_row W9 hc hk hq
    exact (hF q q1 j (by rw [q4, tg_a (by decide)]; exact hT.2.2.2.2)).trans (p2 q hq j)
theorem kt_t (h : Kt_ L κ R I I1 ts) (h2 : Kt_ L κ R I1 I2 ts2) (hs : ∀ t ∈ ts2, t ∈ ts) : Kt_ L κ R I I2 ts := fun c hc hk hn => by
  obtain ⟨p1, p2⟩ := h c hc hk hn
  obtain ⟨q1, q2⟩ := h2 c hc hk (fun q => hn (hs c q))
  exact ⟨fun j h1 h2 => (q1 j h1 h2).trans (p1 j h1 h2), fun q hq j => (q2 q hq j).trans (p2 q hq j)⟩
theorem tj_4 {f g : Nat → Int32} (h5 : f 5 = g 5) (h6 : f 6 = g 6) (h7 : f 7 = g 7) (h8 : f 8 = g 8) : ∀ j, 5 ≤ j → j < 9 → f j = g j := fun j h1 h2 => by
  rcases (show j = 5 ∨ j = 6 ∨ j = 7 ∨ j = 8 by omega) with e | e | e | e <;> subst e <;> assumption
theorem k2_to {α : Type} {I I2 : Nat → Nat → α} {b a n j : Nat} {v : α} (e : I2 = k2_ I b a n) (hj : j < n) (hc : I b j = v) : I2 a j = v := by rw [e]; unfold k2_; rw [if_pos ⟨rfl, hj⟩]; exact hc
/-- what comes behind leaves it -/
theorem sc_fq (W9 : ∀ a ∈ L, Shp L κ ln R ow a) {s : Nat} (ht : t ∈ L) (hk : κ t = 8) (h : Sc_ R I I1 t s) (hF : Fq L κ ow T I1 I2) (hT : 805 ∉ T ∧ 806 ∉ T ∧ 807 ∉ T ∧ 808 ∉ T ∧ 58200 ∉ T) : Sc_ R I I2 t s := by
  refine ⟨fun j h1 h2 => (hF t ht j ?_).trans (h.1 j h1 h2), fun q b hq hb j hj => ?_⟩
  · rw [ro_o hk (by decide), tg_, if_pos (by decide)]
    rcases (show j = 5 ∨ j = 6 ∨ j = 7 ∨ j = 8 by omega) with e | e | e | e <;> subst e
    · exact hT.1
    · exact hT.2.1
    · exact hT.2.2.1
    · exact hT.2.2.2.1
  · obtain ⟨q1, q2, q3, q4⟩ := kt_row W9 ht hk hq
    exact (hF q q1 j (by rw [q4, tg_a (by decide)]; exact hT.2.2.2.2)).trans (h.2 q b hq hb j hj)
theorem sc_u (W9 : ∀ a ∈ L, Shp L κ ln R ow a) {s k : Nat} {v : Int32} (ht : t ∈ L) (hk : κ t = 8) (h : Sc_ R I I1 t s) (e : I2 = u2_ I1 a k v) (ha : κ a < 13 ∧ κ a ≠ 8) : Sc_ R I I2 t s := by
  refine ⟨fun j h1 h2 => ?_, fun q b hq hb j hj => ?_⟩
  · rw [e, u2_b (fun z => ha.2 (by rw [← z]; exact hk))]; exact h.1 j h1 h2
  · obtain ⟨q1, q2, q3, q4⟩ := kt_row W9 ht hk hq
    rw [e, u2_b (fun z => by rw [z] at q2; omega)]
    exact h.2 q b hq hb j hj
theorem ct_of {b : TB_} {s : Nat} (h : Sc_ R I1 I2 t s) (e : I1 s 5 = b.persons ∧ I1 s 6 = b.dishes ∧ I1 s 7 = b.law ∧ I1 s 8 = b.dogs ∧ ∀ q, R s 2 = some q → ∀ j : Nat, j < 7 → I1 q j = b.par j) (hs : ∃ q, R s 2 = some q) : Ct_ R I2 t b := by
  obtain ⟨e1, e2, e3, e4, e5⟩ := e
  obtain ⟨q0, hq0⟩ := hs
  exact ⟨⟨(h.1 5 (by decide) (by decide)).trans e1, (h.1 6 (by decide) (by decide)).trans e2, (h.1 7 (by decide) (by decide)).trans e3, (h.1 8 (by decide) (by decide)).trans e4⟩, fun q hq j hj => (h.2 q q0 hq hq0 j hj).trans (e5 q0 hq0 j hj)⟩
end KT
