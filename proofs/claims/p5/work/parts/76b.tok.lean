/-! the words that are no NAMES, and TOKENS -/
def wls : List (List Int32) := [[112, 101, 114, 115, 111, 110], [100, 105, 115, 104], [112, 108, 97, 116, 101], [108, 97, 119], [100, 111, 103, 115], [111, 102], [115, 112, 111, 105, 108, 115], [110, 101, 120, 116], [99, 104, 105, 108, 100], [108, 101, 97, 115, 116], [101, 97, 116, 115], [115, 101, 114, 118, 101, 100], [114, 105, 115, 101, 115], [114, 101, 102, 117, 115, 101, 115], [97, 99, 99, 101, 112, 116, 115], [100, 105, 101, 115], [109, 101, 97, 108], [111, 114], [97, 110, 100], [110, 111, 116], [100, 101, 97, 100], [114, 101, 102, 117, 115, 101, 100], [99, 108, 101, 97, 110], [104, 97, 115], [119, 97, 110, 116, 115], [101, 97, 116, 101, 110], [104, 117, 110, 103, 101, 114], [110, 117, 109, 98, 101, 114]]
def wk (j : Nat) : Int64 := p32 (wls.getD j [])
def mc_ (k : Nat) : Nat := ([0, 1, 6, 2, 3, 7, 8, 9, 4, 10, 11, 12, 13, 14, 15, 16, 17, 18, 19, 20, 21, 22, 5, 23, 24, 25, 26, 27] : List Nat).getD k 0
theorem wls_ok : ∀ j : Fin 28, (wls.getD j.val []).length ≤ 7 ∧ ∀ c ∈ wls.getD j.val [], 97 ≤ c.toInt ∧ c.toInt ≤ 122 := by decide +kernel
theorem wof_k : ∀ k : Fin 28, wof (Int32.ofNat k.val) = p27 (wls.getD (mc_ k.val) []) := by decide +kernel
theorem mc_lt : ∀ k : Fin 28, mc_ k.val < 28 := by decide +kernel
theorem mc_on : ∀ j : Fin 28, ∃ k : Fin 28, mc_ k.val = j.val := by decide +kernel
theorem wk_ne : ∀ j k : Fin 28, wk j.val = wk k.val → j = k := by decide +kernel
theorem wk_wd {j : Nat} (h : j < 28) : Wd (wk j) (p27 (wls.getD j [])) := ⟨_, (wls_ok ⟨j, h⟩).1, (wls_ok ⟨j, h⟩).2, rfl, rfl⟩
theorem wk_inj {j k : Nat} (hj : j < 28) (hk : k < 28) (e : wk j = wk k) : j = k := congrArg Fin.val (wk_ne ⟨j, hj⟩ ⟨k, hk⟩ e)
theorem wof_wd {v w : Int64} {k : Nat} (h : k < 28) (hw : Wd v w) : w = wof (Int32.ofNat k) ↔ v = wk (mc_ k) := by
  rw [wof_k ⟨k, h⟩]
  exact (wd_inj hw (wk_wd (mc_lt ⟨k, h⟩))).symm
theorem lc_eq {x y : Int64} : lc_ x y = 0 ↔ x = y := lx_e rfl
theorem ofn {k : Nat} (h : k < 2147483648) : (Int32.ofNat k).toInt = k := by
  rw [Int32.toInt_ofNat_of_lt]
  simpa using h
theorem nofn {k : Nat} (h : k < 2147483648) : (Int32.ofNat k).toNatClampNeg = k := by rw [nnI, ofn h]; omega
theorem ofn1 {k : Nat} (h : k < 2147483647) : Int32.ofNat k + 1 = Int32.ofNat (k + 1) := i_ext (by rw [add1 (by rw [ofn (by omega)]; omega), ofn (by omega), ofn (by omega)]; omega)
theorem ofn_toNat {i : Int32} (h : 0 ≤ i.toInt) : Int32.ofNat i.toInt.toNat = i := i_ext (by have := Int32.toInt_lt i; rw [ofn (by omega)]; omega)
/-- what the class's row of words says of a word -/
def Cw_ (v : Int64) (c : Int32) : Prop := (∃ j : Nat, j < 28 ∧ v = wk j ∧ c = Int32.ofNat j) ∨ ((∀ j : Nat, j < 28 → v ≠ wk j) ∧ c = 100)
def Wk_ (wd : Nat → Int64) : Prop := ∀ j : Nat, j < 28 → wd j = wk j
theorem tow_n {wd : Nat → Int64} (hw : Wk_ wd) {v : Int64} : ∀ (d k : Nat), k + d = 28 → (∀ j : Nat, j < k → v ≠ wk j) → Cw_ v (tow wd v (Int32.ofNat k))
  | 0, k, e, h => by
    have ek : k = 28 := by omega
    subst ek
    rw [tow_eq (by unfold Rg; rw [ofn (by decide)]; omega), if_pos (leI.mpr (by decide))]
    exact Or.inr ⟨h, rfl⟩
  | d + 1, k, e, h => by
    rw [tow_eq (by unfold Rg; rw [ofn (by omega)]; omega), if_neg (fun q => by have := leI.mp q; rw [ofn (by omega), show (28 : Int32).toInt = 28 from by decide] at this; omega), nofn (by omega), hw k (by omega)]
    by_cases q : wk k = v
    · rw [if_pos (lc_eq.mpr q)]
      exact Or.inl ⟨k, by omega, q.symm, rfl⟩
    · rw [if_neg (fun z => q (lc_eq.mp z)), ofn1 (by omega)]
      exact tow_n hw d (k + 1) (by omega) (fun j hj => by
        by_cases z : j = k
        · subst z; exact fun y => q y.symm
        · exact h j (by omega))
theorem tow_cw {wd : Nat → Int64} (hw : Wk_ wd) {v : Int64} : Cw_ v (tow wd v 0) := tow_n hw 28 0 rfl (fun j hj => by omega)
/-- a TOKEN: the class's code, place and value; the reference's state -/
def Tok (c p : Int32) (v : Int64) (m : MT_) : Prop := m.frm = p ∧ (
  (c = 102 ∧ m.kind = 0) ∨ (c = 103 ∧ m.kind = 1) ∨ (¬ isSg c = 0 ∧ m.kind = 4 ∧ m.sign = c) ∨
  (c = 101 ∧ m.kind = 3 ∧ v = Int32.toInt64 m.number ∧ 0 ≤ m.number.toInt ∧ m.number.toInt ≤ 999) ∨
  (m.kind = 2 ∧ Wd v m.word ∧ Cw_ v c))
theorem sg_i {c : Int32} (h : ¬ isSg c = 0) : c = 40 ∨ c = 41 ∨ c = 59 ∨ c = 60 ∨ c = 61 ∨ c = 62 := by
  have e59 : (59 : Int32).toInt = 59 := by decide
  have e60 : (60 : Int32).toInt = 60 := by decide
  have e61 : (61 : Int32).toInt = 61 := by decide
  have e62 : (62 : Int32).toInt = 62 := by decide
  unfold isSg at h
  by_cases h1 : c = 40
  · exact Or.inl h1
  by_cases h2 : c = 41
  · exact Or.inr (Or.inl h2)
  rw [if_neg h1, if_neg h2] at h
  by_cases h3 : c < 59
  · rw [if_pos h3] at h; exact absurd rfl h
  rw [if_neg h3] at h
  by_cases h4 : 62 < c
  · rw [if_pos h4] at h; exact absurd rfl h
  rw [ltI] at h3 h4
  rw [e59] at h3; rw [e62] at h4
  rcases (show c.toInt = 59 ∨ c.toInt = 60 ∨ c.toInt = 61 ∨ c.toInt = 62 by omega) with q | q | q | q
  · exact Or.inr (Or.inr (Or.inl (i_ext (by omega))))
  · exact Or.inr (Or.inr (Or.inr (Or.inl (i_ext (by omega)))))
  · exact Or.inr (Or.inr (Or.inr (Or.inr (Or.inl (i_ext (by omega))))))
  · exact Or.inr (Or.inr (Or.inr (Or.inr (Or.inr (i_ext (by omega))))))
theorem cw_lt {v : Int64} {c : Int32} (h : Cw_ v c) : (0 ≤ c.toInt ∧ c.toInt < 28) ∨ c.toInt = 100 := by
  rcases h with ⟨j, h1, h2, h3⟩ | ⟨h1, h2⟩
  · rw [h3, ofn (by omega)]; omega
  · rw [h2]; exact Or.inr (by decide)
theorem sg_t {c : Int32} (h : ¬ isSg c = 0) : c.toInt = 40 ∨ c.toInt = 41 ∨ c.toInt = 59 ∨ c.toInt = 60 ∨ c.toInt = 61 ∨ c.toInt = 62 := by
  rcases sg_i h with q | q | q | q | q | q <;> rw [q] <;> decide
theorem k0 : (0 : Int32).toInt = 0 := by decide
theorem k1 : (1 : Int32).toInt = 1 := by decide
theorem k2 : (2 : Int32).toInt = 2 := by decide
theorem k3 : (3 : Int32).toInt = 3 := by decide
theorem k4 : (4 : Int32).toInt = 4 := by decide
theorem k100 : (100 : Int32).toInt = 100 := by decide
theorem k101 : (101 : Int32).toInt = 101 := by decide
theorem k102 : (102 : Int32).toInt = 102 := by decide
theorem k103 : (103 : Int32).toInt = 103 := by decide
/-- the kind of a token, by its code -/
theorem tok_kind {c p : Int32} {v : Int64} {m : MT_} (h : Tok c p v m) :
    (c.toInt = 102 ∧ m.kind.toInt = 0) ∨ (c.toInt = 103 ∧ m.kind.toInt = 1) ∨ ((c.toInt = 40 ∨ c.toInt = 41 ∨ (59 ≤ c.toInt ∧ c.toInt ≤ 62)) ∧ m.kind.toInt = 4 ∧ m.sign = c) ∨ (c.toInt = 101 ∧ m.kind.toInt = 3) ∨ (((0 ≤ c.toInt ∧ c.toInt < 28) ∨ c.toInt = 100) ∧ m.kind.toInt = 2) := by
  rcases h.2 with ⟨a, b⟩ | ⟨a, b⟩ | ⟨a, b, d⟩ | ⟨a, b, d⟩ | ⟨a, b, d⟩
  · rw [a, b]; exact Or.inl (by decide)
  · rw [a, b]; exact Or.inr (Or.inl (by decide))
  · have := sg_t a
    rw [b, k4]
    exact Or.inr (Or.inr (Or.inl ⟨by omega, rfl, d⟩))
  · rw [a, b]; exact Or.inr (Or.inr (Or.inr (Or.inl (by decide))))
  · rw [a, k2]; exact Or.inr (Or.inr (Or.inr (Or.inr ⟨cw_lt d, rfl⟩)))
theorem tok_stop {c p : Int32} {v : Int64} {m : MT_} (h : Tok c p v m) : m.kind = 0 ↔ c = 102 := by
  have := tok_kind h
  rw [eqI, eqI, k0, k102]; omega
theorem tok_num {c p : Int32} {v : Int64} {m : MT_} (h : Tok c p v m) : m.kind = 3 ↔ c = 101 := by
  have := tok_kind h
  rw [eqI, eqI, k3, k101]; omega
theorem tok_bad {c p : Int32} {v : Int64} {m : MT_} (h : Tok c p v m) : m.kind = 1 ↔ c = 103 := by
  have := tok_kind h
  rw [eqI, eqI, k1, k103]; omega
theorem tok_numv {p : Int32} {v : Int64} {m : MT_} (h : Tok 101 p v m) : v = Int32.toInt64 m.number ∧ 0 ≤ m.number.toInt ∧ m.number.toInt ≤ 999 := by
  rcases h.2 with ⟨a, b⟩ | ⟨a, b⟩ | ⟨a, b, d⟩ | ⟨a, b, d⟩ | ⟨a, b, d⟩
  · exact absurd a (by decide)
  · exact absurd a (by decide)
  · exact absurd (by decide) a
  · exact d
  · have := cw_lt d; rw [k101] at this; omega
theorem tok_sign {c p s : Int32} {v : Int64} {m : MT_} (h : Tok c p v m) (hs : ¬ isSg s = 0) : mIsSign s m = 0 ↔ ¬ c = s := by
  have hk := tok_kind h
  have ht := sg_t hs
  unfold mIsSign
  by_cases q : m.kind = 4
  · rw [if_pos q]
    have e : m.sign = c := by
      rw [eqI, k4] at q
      rcases hk with z | z | z | z | z
      · omega
      · omega
      · exact z.2.2
      · omega
      · omega
    rw [e]
    by_cases y : c = s
    · rw [if_pos y]; exact ⟨fun z => absurd z (by decide), fun z => absurd y z⟩
    · rw [if_neg y]; exact ⟨fun _ => y, fun _ => rfl⟩
  · rw [if_neg q]
    refine ⟨fun _ y => ?_, fun _ => rfl⟩
    rw [eqI, k4] at q
    rw [y] at hk
    omega
theorem tok_word {c p : Int32} {v : Int64} {m : MT_} {k : Nat} (h : Tok c p v m) (hk : k < 28) : mIsWord (Int32.ofNat k) m = 0 ↔ ¬ c = Int32.ofNat (mc_ k) := by
  have hm := mc_lt ⟨k, hk⟩
  have hq := tok_kind h
  have e : (Int32.ofNat (mc_ k)).toInt = mc_ k := ofn (by have : mc_ k < 28 := hm; omega)
  unfold mIsWord
  by_cases q : m.kind = 2
  · rw [if_pos q]
    rcases h.2 with ⟨a, b⟩ | ⟨a, b⟩ | ⟨a, b, d⟩ | ⟨a, b, d⟩ | ⟨a, b, d⟩
    · rw [b] at q; exact absurd q (by decide)
    · rw [b] at q; exact absurd q (by decide)
    · rw [b] at q; exact absurd q (by decide)
    · rw [b] at q; exact absurd q (by decide)
    · by_cases y : lc_ m.word (wof (Int32.ofNat k)) = 0
      · rw [if_pos y]
        have y2 := (wof_wd hk b).mp (lc_eq.mp y)
        refine ⟨fun z => absurd z (by decide), fun z => absurd ?_ z⟩
        rcases d with ⟨j, d1, d2, d3⟩ | ⟨d1, d2⟩
        · rw [d3, wk_inj d1 hm (d2.symm.trans y2)]
        · exact absurd y2 (d1 _ hm)
      · rw [if_neg y]
        refine ⟨fun _ z => y (lc_eq.mpr ((wof_wd hk b).mpr ?_)), fun _ => rfl⟩
        rcases d with ⟨j, d1, d2, d3⟩ | ⟨d1, d2⟩
        · have : j = mc_ k := by
            have := congrArg Int32.toInt (d3.symm.trans z)
            rw [e, ofn (by omega)] at this; omega
          rw [d2, this]
        · rw [d2, eqI, e, k100] at z
          have : mc_ k < 28 := hm
          omega
  · rw [if_neg q]
    refine ⟨fun _ y => ?_, fun _ => rfl⟩
    rw [eqI, k2] at q
    rw [eqI, e] at y
    have : mc_ k < 28 := hm
    omega
theorem mnl_n {m : MT_} : ∀ (d k : Nat), k + d = 28 → (mnl (Int32.ofNat k) m = 1 ∧ ∀ j : Nat, k ≤ j → j < 28 → m.word ≠ wof (Int32.ofNat j)) ∨ (mnl (Int32.ofNat k) m = 0 ∧ ∃ j : Nat, j < 28 ∧ m.word = wof (Int32.ofNat j))
  | 0, k, e => by
    have ek : k = 28 := by omega
    subst ek
    rw [mnl_eq (by unfold Rg; rw [ofn (by decide)]; omega), if_pos (ltI.mpr (by decide))]
    exact Or.inl ⟨rfl, fun j h1 h2 => by omega⟩
  | d + 1, k, e => by
    rw [mnl_eq (by unfold Rg; rw [ofn (by omega)]; omega), if_neg (fun q => by have := ltI.mp q; rw [ofn (by omega), show (27 : Int32).toInt = 27 from by decide] at this; omega)]
    by_cases q : lc_ m.word (wof (Int32.ofNat k)) = 0
    · rw [if_pos q]
      exact Or.inr ⟨rfl, k, by omega, lc_eq.mp q⟩
    · rw [if_neg q, ofn1 (by omega)]
      rcases mnl_n (m := m) d (k + 1) (by omega) with ⟨a, b⟩ | ⟨a, b⟩
      · refine Or.inl ⟨a, fun j h1 h2 => ?_⟩
        by_cases z : j = k
        · rw [z]; exact fun y => q (lc_eq.mpr y)
        · exact b j (by omega) h2
      · exact Or.inr ⟨a, b⟩
theorem tok_name {c p : Int32} {v : Int64} {m : MT_} (h : Tok c p v m) : mIsName m = 0 ↔ ¬ c = 100 := by
  have hq := tok_kind h
  unfold mIsName
  by_cases q : m.kind = 2
  · rw [if_pos q]
    rcases h.2 with ⟨a, b⟩ | ⟨a, b⟩ | ⟨a, b, d⟩ | ⟨a, b, d⟩ | ⟨a, b, d⟩
    · rw [b] at q; exact absurd q (by decide)
    · rw [b] at q; exact absurd q (by decide)
    · rw [b] at q; exact absurd q (by decide)
    · rw [b] at q; exact absurd q (by decide)
    · rcases mnl_n (m := m) 28 0 rfl with ⟨x, y⟩ | ⟨x, y⟩
      · rw [show mnl 0 m = 1 from x]
        refine ⟨fun z => absurd z (by decide), fun z => absurd ?_ z⟩
        rcases d with ⟨j, d1, d2, d3⟩ | ⟨d1, d2⟩
        · obtain ⟨k, hk⟩ := mc_on ⟨j, d1⟩
          exact absurd ((wof_wd k.isLt b).mpr (by rw [hk]; exact d2)) (y k.val (Nat.zero_le _) k.isLt)
        · exact d2
      · rw [show mnl 0 m = 0 from x]
        refine ⟨fun _ z => ?_, fun _ => rfl⟩
        obtain ⟨k, hk, e⟩ := y
        have e2 := (wof_wd hk b).mp e
        rcases d with ⟨j, d1, d2, d3⟩ | ⟨d1, d2⟩
        · rw [d3, eqI, ofn (by omega), k100] at z; omega
        · exact d1 _ (mc_lt ⟨k, hk⟩) e2
  · rw [if_neg q]
    refine ⟨fun _ y => ?_, fun _ => rfl⟩
    rw [eqI, k2] at q
    rw [eqI, k100] at y
    omega
theorem tok_wd {p : Int32} {v : Int64} {m : MT_} (h : Tok 100 p v m) : Wd v m.word := by
  rcases h.2 with ⟨a, b⟩ | ⟨a, b⟩ | ⟨a, b, d⟩ | ⟨a, b, d⟩ | ⟨a, b, d⟩
  · exact absurd a (by decide)
  · exact absurd a (by decide)
  · exact absurd (by decide) a
  · exact absurd a (by decide)
  · exact b
