/-! how near two are: the greater one's parent, step by step -/
def dd_ (P : Nat → Option Nat) : Nat → Nat → Nat → Option Nat
  | 0, a, b => if a = b then some 0 else none
  | f + 1, a, b => if a = b then some 0 else (P (max a b)).bind (fun i => (dd_ P f i (min a b)).map (· + 1))
def Pb_ (P : Nat → Option Nat) (n : Nat) : Prop := ∀ j i, P j = some i → i < j ∧ j < n
def Dd_ (P : Nat → Option Nat) (a b : Nat) : Option Nat := dd_ P 14 a b
section KIN
variable {P : Nat → Option Nat} {n : Nat}
theorem dd_sym : ∀ (f a b : Nat), dd_ P f a b = dd_ P f b a
  | 0, a, b => by
    unfold dd_
    by_cases h : a = b
    · rw [h]
    · rw [if_neg h, if_neg (fun e => h e.symm)]
  | f + 1, a, b => by
    unfold dd_
    by_cases h : a = b
    · rw [h]
    · rw [if_neg h, if_neg (fun e => h e.symm), Nat.max_comm, Nat.min_comm]
theorem dd_st (hP : Pb_ P n) : ∀ (f a b : Nat), a + b ≤ f → dd_ P (f + 1) a b = dd_ P f a b
  | 0, a, b, h => by
    have e : a = b := by omega
    unfold dd_
    rw [if_pos e, if_pos e]
  | f + 1, a, b, h => by
    by_cases e : a = b
    · unfold dd_
      rw [if_pos e, if_pos e]
    · rw [show dd_ P (f + 1 + 1) a b = (P (max a b)).bind (fun i => (dd_ P (f + 1) i (min a b)).map (· + 1)) from by rw [dd_]; exact if_neg e, show dd_ P (f + 1) a b = (P (max a b)).bind (fun i => (dd_ P f i (min a b)).map (· + 1)) from by rw [dd_]; exact if_neg e]
      cases hp : P (max a b) with
      | none => rfl
      | some i =>
        have q := (hP _ _ hp).1
        show (dd_ P (f + 1) i (min a b)).map (· + 1) = (dd_ P f i (min a b)).map (· + 1)
        rw [dd_st hP f i (min a b) (by omega)]
theorem bd_cg {o : Option Nat} {F G : Nat → Option Nat} (h : ∀ i, o = some i → F i = G i) : o.bind F = o.bind G := by
  cases o with
  | none => rfl
  | some i => exact h i rfl
theorem Dd_s {a : Nat} : Dd_ P a a = some 0 := by unfold Dd_; rw [dd_]; exact if_pos rfl
theorem Dd_y {a b : Nat} : Dd_ P a b = Dd_ P b a := dd_sym 14 a b
theorem Dd_g (hP : Pb_ P n) {a b : Nat} (h : b < a) (ha : a ≤ 6) : Dd_ P a b = (P a).bind (fun i => (Dd_ P i b).map (· + 1)) := by
  unfold Dd_
  rw [show dd_ P 14 a b = (P (max a b)).bind (fun i => (dd_ P 13 i (min a b)).map (· + 1)) from by rw [dd_]; exact if_neg (by omega), Nat.max_eq_left (Nat.le_of_lt h), Nat.min_eq_right (Nat.le_of_lt h)]
  refine bd_cg (fun i hp => ?_)
  have q := (hP _ _ hp).1
  have e : dd_ P 14 i b = dd_ P 13 i b := dd_st hP 13 i b (by omega)
  rw [e]
theorem Dd_gs (hP : Pb_ P n) {a b i : Nat} (h : b < a) (ha : a ≤ 6) (hp : P a = some i) : Dd_ P a b = (Dd_ P i b).map (· + 1) := by
  rw [Dd_g hP h ha, hp]; rfl
theorem Dd_gn (hP : Pb_ P n) {a b : Nat} (h : b < a) (ha : a ≤ 6) (hp : P a = none) : Dd_ P a b = none := by
  rw [Dd_g hP h ha, hp]; rfl
theorem mp_s {o : Option Nat} {d : Nat} (h : o.map (· + 1) = some d) : ∃ e, o = some e ∧ d = e + 1 := by
  cases o with
  | none => cases h
  | some e => cases h; exact ⟨e, rfl, rfl⟩
/-- at most the greater one -/
theorem Dd_le (hP : Pb_ P n) : ∀ (m a b d : Nat), a ≤ m → b ≤ m → m ≤ 6 → Dd_ P a b = some d → d ≤ m
  | m, a, b, d, ha, hb, hm, h => by
    by_cases e : a = b
    · rw [e, Dd_s] at h; cases h; omega
    · have two : ∀ (a b : Nat), b < a → a ≤ m → Dd_ P a b = some d → d ≤ m := fun a b hl ha h => by
        cases hp : P a with
        | none => rw [Dd_gn hP hl (by omega) hp] at h; cases h
        | some i =>
          rw [Dd_gs hP hl (by omega) hp] at h
          obtain ⟨e, h1, h2⟩ := mp_s h
          have q := (hP _ _ hp).1
          have := Dd_le hP (m - 1) i b e (by omega) (by omega) (by omega) h1
          omega
      rcases Nat.lt_or_gt_of_ne e with q | q
      · rw [Dd_y] at h; exact two b a q hb h
      · exact two a b q ha h
  termination_by m => m
  decreasing_by omega
theorem Dd_0 (hP : Pb_ P n) {a b : Nat} (ha : a ≤ 6) (hb : b ≤ 6) (h : Dd_ P a b = some 0) : a = b := by
  have two : ∀ (a b : Nat), b < a → a ≤ 6 → Dd_ P a b = some 0 → False := fun a b hl ha h => by
    cases hp : P a with
    | none => rw [Dd_gn hP hl ha hp] at h; cases h
    | some i =>
      rw [Dd_gs hP hl ha hp] at h
      obtain ⟨e, -, h2⟩ := mp_s h
      omega
  rcases Nat.lt_trichotomy a b with q | q | q
  · rw [Dd_y] at h; exact (two b a q hb h).elim
  · exact q
  · exact (two a b q ha h).elim
/-- one apart -/
def Nb_ (x y : Option Nat) : Prop := (x = none ∧ y = none) ∨ ∃ e, (x = some e ∧ y = some (e + 1)) ∨ (x = some (e + 1) ∧ y = some e)
theorem nb_m {x y : Option Nat} (h : Nb_ x y) : Nb_ (x.map (· + 1)) (y.map (· + 1)) := by
  rcases h with ⟨h1, h2⟩ | ⟨e, ⟨h1, h2⟩ | ⟨h1, h2⟩⟩ <;> subst h1 <;> subst h2
  · exact Or.inl ⟨rfl, rfl⟩
  · exact Or.inr ⟨e + 1, Or.inl ⟨rfl, rfl⟩⟩
  · exact Or.inr ⟨e + 1, Or.inr ⟨rfl, rfl⟩⟩
theorem nb_l {x y : Option Nat} {d k : Nat} (h : Nb_ x y) (hx : x = some d) (hd : d ≤ k) : ∃ e, e ≤ k + 1 ∧ y = some e := by
  rcases h with ⟨h1, h2⟩ | ⟨e, ⟨h1, h2⟩ | ⟨h1, h2⟩⟩
  · rw [h1] at hx; cases hx
  · rw [h1] at hx; cases hx; exact ⟨d + 1, by omega, h2⟩
  · rw [h1] at hx; cases hx; exact ⟨e, by omega, h2⟩
theorem nb_r {x y : Option Nat} {d k : Nat} (h : Nb_ x y) (hy : y = some d) (hd : d ≤ k) : ∃ e, e ≤ k + 1 ∧ x = some e := by
  rcases h with ⟨h1, h2⟩ | ⟨e, ⟨h1, h2⟩ | ⟨h1, h2⟩⟩
  · rw [h2] at hy; cases hy
  · rw [h2] at hy; cases hy; exact ⟨e, by omega, h1⟩
  · rw [h2] at hy; cases hy; exact ⟨d + 1, by omega, h1⟩
theorem Dd_nb (hP : Pb_ P n) {v u : Nat} (hv : v ≤ 6) (hu : P v = some u) : ∀ (p : Nat), p ≤ 6 → Nb_ (Dd_ P p v) (Dd_ P p u) := fun p => by
  have hl := (hP _ _ hu).1
  induction p using Nat.strongRecOn with
  | ind p ih =>
    intro hp
    rcases Nat.lt_trichotomy p v with q | q | q
    · rw [Dd_y (a := p) (b := v), Dd_gs hP q hv hu, Dd_y (a := u) (b := p)]
      cases Dd_ P p u with
      | none => exact Or.inl ⟨rfl, rfl⟩
      | some e => exact Or.inr ⟨e, Or.inr ⟨rfl, rfl⟩⟩
    · subst q
      rw [Dd_s, Dd_gs hP hl hp hu, Dd_s]
      exact Or.inr ⟨0, Or.inl ⟨rfl, rfl⟩⟩
    · cases hi : P p with
      | none => rw [Dd_gn hP q hp hi, Dd_gn hP (Nat.lt_trans hl q) hp hi]; exact Or.inl ⟨rfl, rfl⟩
      | some i =>
        have hil := (hP _ _ hi).1
        rw [Dd_gs hP q hp hi, Dd_gs hP (Nat.lt_trans hl q) hp hi]
        exact nb_m (ih i hil (by omega))
theorem Dd_bk (hP : Pb_ P n) {q : Nat} (hq : q ≤ 6) (h6 : n ≤ 7) : ∀ (p d : Nat), p ≤ 6 → Dd_ P p q = some (d + 1) → ∃ r, r ≤ 6 ∧ Dd_ P p r = some d ∧ (P q = some r ∨ P r = some q) := fun p => by
  induction p using Nat.strongRecOn with
  | ind p ih =>
    intro d hp h
    rcases Nat.lt_trichotomy p q with c | c | c
    · rw [Dd_y] at h
      cases hi : P q with
      | none => rw [Dd_gn hP c hq hi] at h; cases h
      | some i =>
        rw [Dd_gs hP c hq hi] at h
        obtain ⟨e, h1, h2⟩ := mp_s h
        have hil := (hP _ _ hi).1
        refine ⟨i, by omega, ?_, Or.inl rfl⟩
        rw [Dd_y, h1]; congr 1; omega
    · subst c
      rw [Dd_s] at h; cases h
    · cases hi : P p with
      | none => rw [Dd_gn hP c hp hi] at h; cases h
      | some i =>
        have hil := (hP _ _ hi).1
        rw [Dd_gs hP c hp hi] at h
        obtain ⟨e, h1, h2⟩ := mp_s h
        obtain rfl : d = e := by omega
        cases d with
        | zero =>
          have e0 := Dd_0 hP (by omega) hq h1
          subst e0
          exact ⟨p, hp, Dd_s, Or.inr hi⟩
        | succ d =>
          obtain ⟨r, r1, r2, r3⟩ := ih i hil d (by omega) h1
          rcases Nat.lt_trichotomy r p with z | z | z
          · exact ⟨r, r1, by rw [Dd_gs hP z hp hi, r2]; rfl, r3⟩
          · subst z
            rcases r3 with r3 | r3
            · have := (hP _ _ r3).1; omega
            · rw [hi] at r3; cases r3
              rw [Dd_s] at h1; cases h1
          · rcases r3 with r3 | r3
            · have := (hP _ _ r3).1; omega
            · rw [Dd_y, Dd_gs hP (by omega) r1 r3, Dd_y, h1] at r2
              have : d + 1 + 1 = d := Option.some.inj r2
              omega
/-! rounds of neighbours -/
def kn1_ (P : Nat → Option Nat) (s : Nat) : Nat → Nat → Nat → Nat
  | 0, _, m => m
  | f + 1, a, m => kn1_ P s f (a + 1) (match P a with
    | none => m
    | some i => let m1 := if s.testBit a then m ||| 2 ^ i else m
      if s.testBit i then m1 ||| 2 ^ a else m1)
theorem tb_or {s i v : Nat} : (s ||| 2 ^ i).testBit v = true ↔ s.testBit v = true ∨ v = i := by
  rw [Nat.testBit_or, Nat.testBit_two_pow, Bool.or_eq_true, decide_eq_true_eq]
  exact ⟨fun h => h.elim Or.inl (fun e => Or.inr e.symm), fun h => h.elim Or.inl (fun e => Or.inr e.symm)⟩
theorem kn1_b {s v : Nat} : ∀ (f a m : Nat), (kn1_ P s f a m).testBit v = true ↔ m.testBit v = true ∨ ∃ c i, a ≤ c ∧ c < a + f ∧ P c = some i ∧ ((v = i ∧ s.testBit c = true) ∨ (v = c ∧ s.testBit i = true))
  | 0, a, m => ⟨Or.inl, fun h => h.elim id (fun ⟨c, i, h1, h2, _⟩ => by omega)⟩
  | f + 1, a, m => by
    unfold kn1_
    rw [kn1_b f (a + 1)]
    have hm : (match P a with
      | none => m
      | some i => let m1 := if s.testBit a then m ||| 2 ^ i else m
        if s.testBit i then m1 ||| 2 ^ a else m1).testBit v = true ↔ m.testBit v = true ∨ ∃ i, P a = some i ∧ ((v = i ∧ s.testBit a = true) ∨ (v = a ∧ s.testBit i = true)) := by
      cases hp : P a with
      | none => exact ⟨Or.inl, fun h => h.elim id (fun ⟨i, h, _⟩ => by cases h)⟩
      | some i =>
        simp only []
        have e : ∀ {q : Prop}, (∃ j, some i = some j ∧ ((v = j ∧ s.testBit a = true) ∨ (v = a ∧ s.testBit j = true))) ↔ ((v = i ∧ s.testBit a = true) ∨ (v = a ∧ s.testBit i = true)) := fun {_} => ⟨fun ⟨j, h, h2⟩ => by cases h; exact h2, fun h => ⟨i, rfl, h⟩⟩
        rw [e (q := True)]
        by_cases z1 : s.testBit a = true <;> by_cases z2 : s.testBit i = true
        · rw [if_pos z1, if_pos z2, tb_or, tb_or]
          exact ⟨fun h => h.elim (fun h => h.elim Or.inl (fun h => Or.inr (Or.inl ⟨h, z1⟩))) (fun h => Or.inr (Or.inr ⟨h, z2⟩)), fun h => h.elim (fun h => Or.inl (Or.inl h)) (fun h => h.elim (fun h => Or.inl (Or.inr h.1)) (fun h => Or.inr h.1))⟩
        · rw [if_pos z1, if_neg z2, tb_or]
          exact ⟨fun h => h.elim Or.inl (fun h => Or.inr (Or.inl ⟨h, z1⟩)), fun h => h.elim Or.inl (fun h => h.elim (fun h => Or.inr h.1) (fun h => absurd h.2 z2))⟩
        · rw [if_neg z1, if_pos z2, tb_or]
          exact ⟨fun h => h.elim Or.inl (fun h => Or.inr (Or.inr ⟨h, z2⟩)), fun h => h.elim Or.inl (fun h => h.elim (fun h => absurd h.2 z1) (fun h => Or.inr h.1))⟩
        · rw [if_neg z1, if_neg z2]
          exact ⟨Or.inl, fun h => h.elim id (fun h => h.elim (fun h => absurd h.2 z1) (fun h => absurd h.2 z2))⟩
    rw [hm]
    constructor
    · rintro ((h | ⟨i, h1, h2⟩) | ⟨c, i, h1, h2, h3, h4⟩)
      · exact Or.inl h
      · exact Or.inr ⟨a, i, Nat.le_refl _, by omega, h1, h2⟩
      · exact Or.inr ⟨c, i, by omega, by omega, h3, h4⟩
    · rintro (h | ⟨c, i, h1, h2, h3, h4⟩)
      · exact Or.inl (Or.inl h)
      · by_cases z : c = a
        · subst z; exact Or.inl (Or.inr ⟨i, h3, h4⟩)
        · exact Or.inr ⟨c, i, by omega, by omega, h3, h4⟩
/-- those within k steps of p -/
def Wi_ (P : Nat → Option Nat) (n p k s : Nat) : Prop := ∀ v, v < n → (s.testBit v = true ↔ ∃ d, d ≤ k ∧ Dd_ P p v = some d)
theorem wi_0 (hP : Pb_ P n) (hn : n ≤ 7) {p : Nat} (hp : p < n) : Wi_ P n p 0 (2 ^ p) := fun v hv => by
  rw [Nat.testBit_two_pow, decide_eq_true_eq]
  constructor
  · intro e; subst e; exact ⟨0, Nat.le_refl _, Dd_s⟩
  · rintro ⟨d, h1, h2⟩
    obtain rfl : d = 0 := by omega
    exact Dd_0 hP (by omega) (by omega) h2
theorem wi_s (hP : Pb_ P n) (hn : n ≤ 7) {p k s : Nat} (hp : p < n) (h : Wi_ P n p k s) : Wi_ P n p (k + 1) (kn1_ P s n 0 s) := fun v hv => by
  rw [kn1_b n 0 s]
  constructor
  · rintro (h1 | ⟨c, i, -, h2, h3, ⟨e, h4⟩ | ⟨e, h4⟩⟩)
    · obtain ⟨d, d1, d2⟩ := (h v hv).mp h1
      exact ⟨d, by omega, d2⟩
    · obtain ⟨d, d1, d2⟩ := (h c (by omega)).mp h4
      rw [e]
      exact nb_l (Dd_nb hP (by omega) h3 p (by omega)) d2 d1
    · have hi := (hP _ _ h3).1
      obtain ⟨d, d1, d2⟩ := (h i (by omega)).mp h4
      rw [e]
      exact nb_r (Dd_nb hP (by omega) h3 p (by omega)) d2 d1
  · rintro ⟨d, d1, d2⟩
    by_cases z : d ≤ k
    · exact Or.inl ((h v hv).mpr ⟨d, z, d2⟩)
    · obtain rfl : d = k + 1 := by omega
      obtain ⟨r, r1, r2, r3⟩ := Dd_bk hP (by omega) hn p k (by omega) d2
      rcases r3 with r3 | r3
      · have hr := (hP _ _ r3).1
        exact Or.inr ⟨v, r, by omega, by omega, r3, Or.inr ⟨rfl, (h r (by omega)).mpr ⟨k, Nat.le_refl _, r2⟩⟩⟩
      · have hr := (hP _ _ r3).2
        exact Or.inr ⟨r, v, by omega, by omega, r3, Or.inl ⟨rfl, (h r hr).mpr ⟨k, Nat.le_refl _, r2⟩⟩⟩
end KIN
