/-! both say how near two are -/
def Pa_ (j : Nat) (v : Int32) : Prop := v = -1 ∨ (0 ≤ v.toInt ∧ v.toInt < j)
def Pf_ (par : Nat → Int32) (n j : Nat) : Option Nat := if j < n then (if par j = -1 then none else some (par j).toNatClampNeg) else none
theorem q_int : ∀ a, a < 40 → (Int32.ofNat a).toInt = a := by decide +kernel
theorem q_nn : ∀ a, a < 40 → (Int32.ofNat a).toNatClampNeg = a := by decide +kernel
theorem q_11 : ∀ a, a < 8 → (11 + Int32.ofNat a).toNatClampNeg = 11 + a := by decide +kernel
theorem q_has : ∀ s, s < 128 → ∀ v, v < 7 → mHas (Int32.ofNat s) (Int32.ofNat v) = if s.testBit v = true then 1 else 0 := by decide +kernel
theorem q_or : ∀ s, s < 128 → ∀ i, i < 7 → Int32.ofNat s ||| 1 <<< (Int32.ofNat i &&& 31) = Int32.ofNat (s ||| 2 ^ i) ∧ s ||| 2 ^ i < 128 := by decide +kernel
theorem q_shl : ∀ i, i < 7 → (1 : Int32) <<< (Int32.ofNat i &&& 31) = Int32.ofNat (2 ^ i) ∧ 2 ^ i < 128 := by decide +kernel
theorem q_m1 : ∀ a, a < 8 → (Int32.ofNat a - 1).toInt = (a : Int) - 1 := by decide +kernel
theorem q_add (a : Nat) : Int32.ofNat a + 1 = Int32.ofNat (a + 1) := (Int32.ofNat_add a 1).symm
theorem q_of {v : Int32} (h0 : 0 ≤ v.toInt) (h9 : v.toInt < 40) : v = Int32.ofNat v.toNatClampNeg := i_ext (by rw [q_int _ (by rw [nnI]; omega), nnI]; omega)
theorem q_lt {a b : Nat} (ha : a < 40) (hb : b < 40) : Int32.ofNat a < Int32.ofNat b ↔ a < b := by rw [ltI, q_int a ha, q_int b hb]; omega
theorem q_le {a b : Nat} (ha : a < 40) (hb : b < 40) : Int32.ofNat a ≤ Int32.ofNat b ↔ a ≤ b := by rw [leI, q_int a ha, q_int b hb]; omega
theorem q_eq {a b : Nat} (ha : a < 40) (hb : b < 40) : Int32.ofNat a = Int32.ofNat b ↔ a = b := by rw [eqI, q_int a ha, q_int b hb]; omega
theorem q_rg {a : Nat} {h : Int} (ha : a < 40) (hh : (a : Int) ≤ h) : Rg 0 h (Int32.ofNat a) := ⟨by rw [q_int a ha]; omega, by rw [q_int a ha]; exact hh⟩
section KIN2
variable {par nw : Nat → Int32} {n : Nat}
theorem pf_some {j i : Nat} (hA : ∀ j, j < n → Pa_ j (par j)) (h : Pf_ par n j = some i) : i < j ∧ j < n ∧ par j = Int32.ofNat i ∧ ¬ par j = -1 := by
  unfold Pf_ at h
  by_cases z : j < n
  · rw [if_pos z] at h
    by_cases y : par j = -1
    · rw [if_pos y] at h; cases h
    · rw [if_neg y] at h
      have e := Option.some.inj h
      rcases hA j z with w | ⟨w1, w2⟩
      · exact absurd w y
      · rw [nnI] at e
        refine ⟨by omega, z, i_ext ?_, y⟩
        by_cases big : i < 40
        · rw [q_int i big]; omega
        · have hb : i < 2 ^ 31 := by have := Int32.toInt_lt (par j); omega
          rw [Int32.toInt_ofNat_of_lt hb]; omega
  · rw [if_neg z] at h; cases h
theorem pf_b (hA : ∀ j, j < n → Pa_ j (par j)) : Pb_ (Pf_ par n) n := fun j i h => ⟨(pf_some hA h).1, (pf_some hA h).2.1⟩
theorem pf_none {j : Nat} (hj : j < n) (h : par j = -1) : Pf_ par n j = none := by unfold Pf_; rw [if_pos hj, if_pos h]
theorem pf_is {j : Nat} (hj : j < n) (h : ¬ par j = -1) : Pf_ par n j = some (par j).toNatClampNeg := by unfold Pf_; rw [if_pos hj, if_neg h]
/-- what is answered -/
def an_ (s : Nat) : Option Nat → Int32
  | none => -1
  | some d => Int32.ofNat (s + d)
theorem sb_ok (hA : ∀ j, j < n → Pa_ j (par j)) (hn : n ≤ 7) : ∀ (F o t s : Nat), o < n → t < n → o + t + s ≤ 12 → o + t < F → sb par (Int32.ofNat o) (Int32.ofNat t) (Int32.ofNat s) = an_ s (Dd_ (Pf_ par n) o t)
  | 0, o, t, s, h1, h2, h3, h4 => by omega
  | F + 1, o, t, s, h1, h2, h3, h4 => by
    have hP := pf_b hA
    rw [sb_eq (q_rg (by omega) (by omega))]
    by_cases e : o = t
    · subst e
      rw [if_pos rfl, Dd_s]; rfl
    · rw [if_neg (fun w => e ((q_eq (by omega) (by omega)).mp w)), if_neg (fun w => by have := (q_le (a := 14) (b := s) (by omega) (by omega)).mp w; omega)]
      have step : ∀ g m : Nat, m < g → g < n → g + m + s ≤ 12 → g + m ≤ F → (if par g = -1 then -1 else sb par (par g) (Int32.ofNat m) (Int32.ofNat s + 1)) = an_ s (Dd_ (Pf_ par n) g m) := fun g m hm hg h5 h6 => by
        by_cases y : par g = -1
        · rw [if_pos y, Dd_gn hP hm (by omega) (pf_none hg y)]; rfl
        · have hi := pf_is hg y
          obtain ⟨i1, i2, i3, i4⟩ := pf_some hA hi
          rw [if_neg y, i3, q_add, sb_ok hA hn F _ m (s + 1) (by omega) (by omega) (by omega) (by omega), Dd_gs hP hm (by omega) hi]
          cases Dd_ (Pf_ par n) (par g).toNatClampNeg m with
          | none => rfl
          | some d =>
            show Int32.ofNat (s + 1 + d) = Int32.ofNat (s + (d + 1))
            rw [show s + 1 + d = s + (d + 1) by omega]
      rcases Nat.lt_or_gt_of_ne e with c | c
      · rw [if_pos ((q_lt (by omega) (by omega)).mpr c), if_neg (show ¬ Int32.ofNat t < Int32.ofNat o from fun w => by have := (q_lt (a := t) (b := o) (by omega) (by omega)).mp w; omega), q_nn t (by omega), Dd_y]
        exact step t o c h2 (by omega) (by omega)
      · rw [if_neg (show ¬ Int32.ofNat o < Int32.ofNat t from fun w => by have := (q_lt (a := o) (b := t) (by omega) (by omega)).mp w; omega), if_pos ((q_lt (by omega) (by omega)).mpr c), q_nn o (by omega)]
        exact step o t c h1 (by omega) (by omega)
theorem kn1_n {P : Nat → Option Nat} {s f a m : Nat} (h : P a = none) : kn1_ P s (f + 1) a m = kn1_ P s f (a + 1) m := by rw [kn1_, h]
theorem kn1_s {P : Nat → Option Nat} {s f a m i : Nat} (h : P a = some i) : kn1_ P s (f + 1) a m = kn1_ P s f (a + 1) (if s.testBit i = true then (if s.testBit a = true then m ||| 2 ^ i else m) ||| 2 ^ a else (if s.testBit a = true then m ||| 2 ^ i else m)) := by rw [kn1_, h]
theorem mk1_ok (hA : ∀ j, j < n → Pa_ j (par j)) (hn : n ≤ 7) (h0 : nw 0 = Int32.ofNat n) (hw : ∀ j, j < n → nw (11 + j) = par j) {s : Nat} (hs : s < 128) : ∀ (f a m : Nat), a + f = n → m < 128 → mk1 nw (Int32.ofNat s) (Int32.ofNat a) (Int32.ofNat m) = Int32.ofNat (kn1_ (Pf_ par n) s f a m) ∧ kn1_ (Pf_ par n) s f a m < 128
  | 0, a, m, h1, hm => by
    rw [mk1_eq (q_rg (by omega) (by omega)), h0, if_pos ((q_le (by omega) (by omega)).mpr (by omega))]
    exact ⟨rfl, hm⟩
  | f + 1, a, m, h1, hm => by
    rw [mk1_eq (q_rg (by omega) (by omega)), h0, if_neg (fun w => by have := (q_le (a := n) (b := a) (by omega) (by omega)).mp w; omega), q_11 a (by omega), hw a (by omega), q_add]
    by_cases y : par a = -1
    · rw [if_pos y, kn1_n (pf_none (by omega) y)]
      exact mk1_ok hA hn h0 hw hs f (a + 1) m (by omega) hm
    · have hi := pf_is (show a < n by omega) y
      obtain ⟨i1, i2, i3, i4⟩ := pf_some hA hi
      rw [if_neg y, kn1_s hi]
      obtain ⟨i, ei⟩ : ∃ i, (par a).toNatClampNeg = i := ⟨_, rfl⟩
      rw [ei] at i1 i3 ⊢
      rw [i3, q_has s hs a (by omega), q_has s hs i (by omega)]
      have o1 := q_or m hm i (by omega)
      have o2 := q_or m hm a (by omega)
      have o3 := q_or (m ||| 2 ^ i) o1.2 a (by omega)
      have z1 : ¬ (1 : Int32) = 0 := by decide
      by_cases c1 : s.testBit a = true <;> by_cases c2 : s.testBit i = true
      · simp only [if_pos c1, if_pos c2, if_neg z1]
        rw [o1.1, o3.1]
        exact mk1_ok hA hn h0 hw hs f (a + 1) _ (by omega) o3.2
      · simp only [if_pos c1, if_neg c2, if_neg z1, if_true]
        rw [o1.1]
        exact mk1_ok hA hn h0 hw hs f (a + 1) _ (by omega) o1.2
      · simp only [if_neg c1, if_pos c2, if_neg z1, if_true]
        rw [o2.1]
        exact mk1_ok hA hn h0 hw hs f (a + 1) _ (by omega) o2.2
      · simp only [if_neg c1, if_neg c2, if_true]
        exact mk1_ok hA hn h0 hw hs f (a + 1) m (by omega) hm
theorem mk2_ok (hA : ∀ j, j < n → Pa_ j (par j)) (hn : n ≤ 7) (h0 : nw 0 = Int32.ofNat n) (hw : ∀ j, j < n → nw (11 + j) = par j) {p q : Nat} (hp : p < n) (hq : q < n) : ∀ (f k s : Nat), k + f = 7 → s < 128 → Wi_ (Pf_ par n) n p k s → (∀ d, Dd_ (Pf_ par n) p q = some d → k ≤ d) → mk2 nw (Int32.ofNat q) (Int32.ofNat k) (Int32.ofNat s) = an_ 0 (Dd_ (Pf_ par n) p q)
  | 0, k, s, h1, hs, hW, hd => by
    rw [mk2_eq (q_rg (by omega) (by omega)), if_pos (show (7 : Int32) ≤ Int32.ofNat k from (q_le (a := 7) (b := k) (by omega) (by omega)).mpr (by omega))]
    cases e : Dd_ (Pf_ par n) p q with
    | none => rfl
    | some d =>
      have := hd d e
      have := Dd_le (pf_b hA) 6 p q d (by omega) (by omega) (by omega) e
      omega
  | f + 1, k, s, h1, hs, hW, hd => by
    rw [mk2_eq (q_rg (by omega) (by omega)), if_neg (fun w => by have := (q_le (a := 7) (b := k) (by omega) (by omega)).mp w; omega), q_has s hs q (by omega)]
    by_cases c : s.testBit q = true
    · rw [if_pos c, if_neg (by decide)]
      obtain ⟨d, d1, d2⟩ := (hW q hq).mp c
      have := hd d d2
      rw [d2]
      show _ = Int32.ofNat (0 + d)
      rw [show 0 + d = k by omega]
    · rw [if_neg c, if_pos rfl]
      obtain ⟨m1, m2⟩ := mk1_ok hA hn h0 hw hs n 0 s (by omega) hs
      rw [show (0 : Int32) = Int32.ofNat 0 from rfl, m1, q_add]
      exact mk2_ok hA hn h0 hw hp hq f (k + 1) _ (by omega) m2 (wi_s (pf_b hA) hn hp hW) (fun d hd2 => by
        have := hd d hd2
        by_cases z : d = k
        · exact absurd ((hW q hq).mpr ⟨d, by omega, hd2⟩) c
        · omega)
end KIN2
theorem kin_eq {p q : Int32} {b : TB_} {w : NW_} (h0 : 0 ≤ b.persons.toInt) (h7 : b.persons.toInt ≤ 7) (hw0 : w.nw 0 = b.persons) (hw : ∀ j : Nat, (j : Int) < b.persons.toInt → w.nw (11 + j) = b.par j ∧ Pa_ j (b.par j)) : fKin p q b = mKin p q w := by
  obtain ⟨n, hn⟩ : ∃ n, b.persons.toNatClampNeg = n := ⟨_, rfl⟩
  have en : b.persons = Int32.ofNat n := by rw [← hn]; exact q_of h0 (by omega)
  have n7 : n ≤ 7 := by rw [nnI] at hn; omega
  have ni : b.persons.toInt = n := by rw [en]; exact q_int n (by omega)
  have hP : ∀ v : Int32, fHasP v b = mIsPerson v w := fun v => by
    unfold fHasP mIsPerson isIn_
    rw [hw0]
    by_cases c : v < 0
    · rw [if_pos c, if_pos c]
    · rw [if_neg c, if_neg c]
      have e : b.persons ≤ v ↔ b.persons - 1 < v := by rw [leI, ltI, en, q_m1 n (by omega), q_int n (by omega)]; omega
      by_cases d : b.persons ≤ v
      · rw [if_pos d, if_pos (e.mp d)]
      · rw [if_neg d, if_neg (fun z => d (e.mpr z))]
  have hv : ∀ v : Int32, ¬ fHasP v b = 0 → v = Int32.ofNat v.toNatClampNeg ∧ v.toNatClampNeg < n := fun v h => by
    unfold fHasP at h
    by_cases c : v < 0
    · rw [if_pos c] at h; exact absurd rfl h
    · rw [if_neg c] at h
      by_cases d : b.persons ≤ v
      · rw [if_pos d] at h; exact absurd rfl h
      · rw [ltI, show (0 : Int32).toInt = 0 from by decide] at c
        rw [leI, ni] at d
        exact ⟨q_of (by omega) (by omega), by rw [nnI]; omega⟩
  unfold fKin mKin
  rw [← hP p, ← hP q]
  by_cases c1 : fHasP p b = 0
  · rw [if_pos c1, if_pos c1]
  · rw [if_neg c1, if_neg c1]
    by_cases c2 : fHasP q b = 0
    · rw [if_pos c2, if_pos c2]
    · rw [if_neg c2, if_neg c2]
      obtain ⟨p1, p2⟩ := hv p c1
      obtain ⟨q1, q2⟩ := hv q c2
      obtain ⟨p', hp'⟩ : ∃ z, p.toNatClampNeg = z := ⟨_, rfl⟩
      obtain ⟨q', hq'⟩ : ∃ z, q.toNatClampNeg = z := ⟨_, rfl⟩
      rw [hp'] at p1 p2
      rw [hq'] at q1 q2
      rw [p1, q1]
      have hA : ∀ j, j < n → Pa_ j (b.par j) := fun j hj => (hw j (by omega)).2
      have hW : ∀ j, j < n → w.nw (11 + j) = b.par j := fun j hj => (hw j (by omega)).1
      unfold fSteps
      rw [show (0 : Int32) = Int32.ofNat 0 from rfl, sb_ok hA n7 (p' + q' + 1) p' q' 0 p2 q2 (by omega) (by omega), (q_shl p' (by omega)).1]
      exact (mk2_ok hA n7 (hw0.trans en) hW p2 q2 7 0 (2 ^ p') (by omega) (q_shl p' (by omega)).2 (wi_0 (pf_b hA) n7 p2) (fun d _ => Nat.zero_le d)).symm
