/-! numbers: ints of bytes, letters, digits -/
theorem i_ext {x y : Int32} (h : x.toInt = y.toInt) : x = y := Int32.toInt_inj.mp h
theorem l_ext {x y : Int64} (h : x.toInt = y.toInt) : x = y := Int64.toInt_inj.mp h
theorem one0 : ((1 : Int32) = 0) = False := eq_false (by decide)
theorem li_0 : (0 : Int32).toInt = 0 := by decide
theorem li_1 : (1 : Int32).toInt = 1 := by decide
theorem ltI {x y : Int32} : x < y ↔ x.toInt < y.toInt := Int32.lt_iff_toInt_lt
theorem leI {x y : Int32} : x ≤ y ↔ x.toInt ≤ y.toInt := Int32.le_iff_toInt_le
theorem eqI {x y : Int32} : x = y ↔ x.toInt = y.toInt := ⟨fun h => by rw [h], i_ext⟩
theorem add1 {x : Int32} (h : x.toInt < 2147483647) : (x + 1).toInt = x.toInt + 1 := by
  have h1 := Int32.le_toInt x
  rw [i_add (by rw [li_1]; omega) (by rw [li_1]; omega), li_1]
theorem nnI (x : Int32) : x.toNatClampNeg = x.toInt.toNat := rfl
theorem lc_i (c : Int32) : isLc c = if 97 ≤ c.toInt ∧ c.toInt ≤ 122 then 1 else 0 := by
  have e1 : (97 : Int32).toInt = 97 := by decide
  have e2 : (122 : Int32).toInt = 122 := by decide
  unfold isLc
  by_cases h1 : c.toInt < 97
  · rw [if_pos (ltI.mpr (by rw [e1]; exact h1)), if_neg (by omega)]
  · rw [if_neg (fun q => h1 (by have := ltI.mp q; rw [e1] at this; exact this))]
    by_cases h2 : 122 < c.toInt
    · rw [if_pos (ltI.mpr (by rw [e2]; exact h2)), if_neg (by omega)]
    · rw [if_neg (fun q => h2 (by have := ltI.mp q; rw [e2] at this; exact this)), if_pos (by omega)]
theorem dc_i (c : Int32) : isDc c = if 48 ≤ c.toInt ∧ c.toInt ≤ 57 then 1 else 0 := by
  have e1 : (48 : Int32).toInt = 48 := by decide
  have e2 : (57 : Int32).toInt = 57 := by decide
  unfold isDc
  by_cases h1 : c.toInt < 48
  · rw [if_pos (ltI.mpr (by rw [e1]; exact h1)), if_neg (by omega)]
  · rw [if_neg (fun q => h1 (by have := ltI.mp q; rw [e1] at this; exact this))]
    by_cases h2 : 57 < c.toInt
    · rw [if_pos (ltI.mpr (by rw [e2]; exact h2)), if_neg (by omega)]
    · rw [if_neg (fun q => h2 (by have := ltI.mp q; rw [e2] at this; exact this)), if_pos (by omega)]
theorem lc_0 {c : Int32} : isLc c = 0 ↔ ¬ (97 ≤ c.toInt ∧ c.toInt ≤ 122) := by
  rw [lc_i]
  by_cases h : 97 ≤ c.toInt ∧ c.toInt ≤ 122
  · rw [if_pos h]; exact ⟨fun q => absurd q (by decide), fun q => absurd h q⟩
  · rw [if_neg h]; exact ⟨fun _ => h, fun _ => rfl⟩
theorem dc_0 {c : Int32} : isDc c = 0 ↔ ¬ (48 ≤ c.toInt ∧ c.toInt ≤ 57) := by
  rw [dc_i]
  by_cases h : 48 ≤ c.toInt ∧ c.toInt ≤ 57
  · rw [if_pos h]; exact ⟨fun q => absurd q (by decide), fun q => absurd h q⟩
  · rw [if_neg h]; exact ⟨fun _ => h, fun _ => rfl⟩
theorem lc_01 (c : Int32) : isLc c = 0 ∨ isLc c = 1 := by
  rw [lc_i]; split
  · exact Or.inr rfl
  · exact Or.inl rfl
/-- the class's byte c, signed, of the reference's m -/
def By_ (c m : Int32) : Prop := 0 ≤ m.toInt ∧ m.toInt ≤ 255 ∧ c.toInt = if m.toInt < 128 then m.toInt else m.toInt - 256
theorem by_low {c m : Int32} (h : By_ c m) (hm : m.toInt < 128) : c = m := i_ext (by have := h.2.2; rw [if_pos hm] at this; exact this)
theorem by_high {c m : Int32} (h : By_ c m) (hm : ¬ m.toInt < 128) : c.toInt < 0 := by
  have := h.2.2; rw [if_neg hm] at this; have := h.2.1; omega
theorem by_lc {c m : Int32} (h : By_ c m) : isLc c = isLc m := by
  by_cases hm : m.toInt < 128
  · rw [by_low h hm]
  · have := by_high h hm
    rw [lc_0.mpr (by omega), lc_0.mpr (by omega)]
theorem by_dc {c m : Int32} (h : By_ c m) : isDc c = isDc m := by
  by_cases hm : m.toInt < 128
  · rw [by_low h hm]
  · have := by_high h hm
    rw [dc_0.mpr (by omega), dc_0.mpr (by omega)]
theorem by_al {c m : Int32} (h : By_ c m) (ha : ¬ isLc m = 0 ∨ ¬ isDc m = 0) : c = m := by
  by_cases hm : m.toInt < 128
  · exact by_low h hm
  · rcases ha with ha | ha
    · exact absurd (lc_0.mpr (by omega)) ha
    · exact absurd (dc_0.mpr (by omega)) ha
theorem by_eq {c m k : Int32} (h : By_ c m) (h0 : 0 ≤ k.toInt) (h1 : k.toInt < 128) : c = k ↔ m = k := by
  by_cases hm : m.toInt < 128
  · rw [by_low h hm]
  · have := by_high h hm
    exact ⟨fun q => by rw [q] at this; omega, fun q => by rw [q] at hm; omega⟩
/-! letters as one number: by 32 (the class), by 27 (the reference) -/
def dig (c : Int32) : Nat := (c.toInt - 96).toNat
def Lts (ls : List Int32) : Prop := ∀ c ∈ ls, 97 ≤ c.toInt ∧ c.toInt ≤ 122
def p32 (ls : List Int32) : Int64 := ls.foldl wlt 0
def s27 (w : Int64) (c : Int32) : Int64 := 27 * w + Int32.toInt64 c - 96
def p27 (ls : List Int32) : Int64 := ls.foldl s27 0
def gB (B : Nat) : List Int32 → Nat
  | [] => 0
  | c :: l => gB B l * B + dig c
theorem gB_inj {B : Nat} (hB : 27 ≤ B) : ∀ {l1 l2 : List Int32}, Lts l1 → Lts l2 → gB B l1 = gB B l2 → l1 = l2
  | [], [], _, _, _ => rfl
  | [], c :: l, _, h2, e => by
    have := h2 c (List.mem_cons_self ..)
    have hd : 1 ≤ dig c := by unfold dig; omega
    simp only [gB] at e
    omega
  | c :: l, [], h1, _, e => by
    have := h1 c (List.mem_cons_self ..)
    have hd : 1 ≤ dig c := by unfold dig; omega
    simp only [gB] at e
    omega
  | c :: l, d :: k, h1, h2, e => by
    have hc := h1 c (List.mem_cons_self ..)
    have hd := h2 d (List.mem_cons_self ..)
    simp only [gB] at e
    have c1 : dig c < B := by unfold dig; omega
    have d1 : dig d < B := by unfold dig; omega
    have m1 : (gB B l * B + dig c) % B = dig c := by rw [Nat.mul_comm, Nat.mul_add_mod, Nat.mod_eq_of_lt c1]
    have m2 : (gB B k * B + dig d) % B = dig d := by rw [Nat.mul_comm, Nat.mul_add_mod, Nat.mod_eq_of_lt d1]
    have e1 : dig c = dig d := by rw [← m1, ← m2, e]
    have e2 : gB B l = gB B k := by
      have : gB B l * B = gB B k * B := by omega
      exact Nat.eq_of_mul_eq_mul_right (by omega) this
    have e3 : c = d := i_ext (by unfold dig at e1; omega)
    have e4 : l = k := gB_inj hB (fun z hz => h1 z (List.mem_cons_of_mem _ hz)) (fun z hz => h2 z (List.mem_cons_of_mem _ hz)) e2
    rw [e3, e4]
theorem gB_lt {B : Nat} (hB : 27 ≤ B) : ∀ {l : List Int32}, Lts l → gB B l < B ^ l.length
  | [], _ => by simp [gB]
  | c :: l, h => by
    have hc := h c (List.mem_cons_self ..)
    have ih := gB_lt hB (l := l) (fun z hz => h z (List.mem_cons_of_mem _ hz))
    have c1 : dig c < B := by unfold dig; omega
    simp only [gB, List.length_cons, Nat.pow_succ]
    calc gB B l * B + dig c < gB B l * B + B := by omega
      _ = (gB B l + 1) * B := by rw [Nat.add_mul, Nat.one_mul]
      _ ≤ B ^ l.length * B := Nat.mul_le_mul_right _ ih
theorem toI64 (x : Int32) : (Int32.toInt64 x).toInt = x.toInt := Int32.toInt_toInt64 x
theorem l_add {x y : Int64} (h1 : -9223372036854775808 ≤ x.toInt + y.toInt) (h2 : x.toInt + y.toInt ≤ 9223372036854775807) : (x + y).toInt = x.toInt + y.toInt := by
  rw [Int64.toInt_add]; exact Int.bmod_eq_of_le (by simpa using h1) (by omega)
theorem l_sub {x y : Int64} (h1 : -9223372036854775808 ≤ x.toInt - y.toInt) (h2 : x.toInt - y.toInt ≤ 9223372036854775807) : (x - y).toInt = x.toInt - y.toInt := by
  rw [Int64.toInt_sub]; exact Int.bmod_eq_of_le (by simpa using h1) (by omega)
theorem l_mul {x y : Int64} (h1 : -9223372036854775808 ≤ x.toInt * y.toInt) (h2 : x.toInt * y.toInt ≤ 9223372036854775807) : (x * y).toInt = x.toInt * y.toInt := by
  rw [Int64.toInt_mul]; exact Int.bmod_eq_of_le (by simpa using h1) (by omega)
theorem s27_i {w : Int64} {c : Int32} {A : Nat} (hw : w.toInt = A) (hA : A < 27 ^ 6) (hc : 97 ≤ c.toInt ∧ c.toInt ≤ 122) : (s27 w c).toInt = ((A * 27 + dig c : Nat) : Int) := by
  have e27 : (27 : Int64).toInt = 27 := by decide
  have e96 : (96 : Int64).toInt = 96 := by decide
  have hA2 : A < 387420489 := hA
  have m : (27 * w).toInt = 27 * (A : Int) := by rw [l_mul (by rw [e27, hw]; omega) (by rw [e27, hw]; omega), e27, hw]
  have a : (27 * w + Int32.toInt64 c).toInt = 27 * (A : Int) + c.toInt := by rw [l_add (by rw [m, toI64]; omega) (by rw [m, toI64]; omega), m, toI64]
  unfold s27
  rw [l_sub (by rw [a, e96]; omega) (by rw [a, e96]; omega), a, e96]
  unfold dig
  omega
theorem wlt_i {w : Int64} {c : Int32} {A : Nat} (hw : w.toInt = A) (hA : A < 32 ^ 6) (hc : 97 ≤ c.toInt ∧ c.toInt ≤ 122) : (wlt w c).toInt = ((A * 32 + dig c : Nat) : Int) := by
  have hA2 : A < 1073741824 := hA
  have e97 : (97 : Int32).toInt = 97 := by decide
  have d1 : (c - 97).toInt = c.toInt - 97 := by rw [i_sub (by rw [e97]; omega) (by rw [e97]; omega), e97]
  have d2 : (c - 97 + 1).toInt = c.toInt - 96 := by rw [add1 (by rw [d1]; omega), d1]; omega
  have d3 : (Int32.toInt64 (c - 97 + 1)).toInt = ((dig c : Nat) : Int) := by rw [toI64, d2]; unfold dig; omega
  have dl : dig c < 32 := by unfold dig; omega
  have five : (Int32.toInt64 5 &&& 63 : Int64) = 5 := by decide
  have nw : w.toBitVec.toNat = A := by
    have h := w.toBitVec.toInt_eq_toNat_cond
    have h2 : w.toBitVec.toInt = (A : Int) := hw
    have h3 := w.toBitVec.isLt
    rw [h] at h2
    split at h2 <;> omega
  have nd : (Int32.toInt64 (c - 97 + 1)).toBitVec.toNat = dig c := by
    have h := (Int32.toInt64 (c - 97 + 1)).toBitVec.toInt_eq_toNat_cond
    have h2 : (Int32.toInt64 (c - 97 + 1)).toBitVec.toInt = ((dig c : Nat) : Int) := d3
    have h3 := (Int32.toInt64 (c - 97 + 1)).toBitVec.isLt
    rw [h] at h2
    split at h2 <;> omega
  have key : (wlt w c).toBitVec.toNat = A * 32 + dig c := by
    unfold wlt
    rw [five, Int64.toBitVec_or, BitVec.toNat_or, nd, Int64.toBitVec_shiftLeft]
    rw [show ((5 : Int64).toBitVec.smod 64) = 5#64 from by decide, BitVec.shiftLeft_eq', BitVec.toNat_shiftLeft, nw]
    rw [show (5#64).toNat = 5 from by decide]
    rw [Nat.mod_eq_of_lt (by rw [Nat.shiftLeft_eq]; omega), ← Nat.shiftLeft_add_eq_or_of_lt (by omega), Nat.shiftLeft_eq]
  have h := (wlt w c).toBitVec.toInt_eq_toNat_cond
  have h2 : (wlt w c).toInt = (wlt w c).toBitVec.toInt := rfl
  rw [h2, h, key, if_pos (by omega)]
theorem p32_i : ∀ {l : List Int32}, Lts l → l.length ≤ 7 → (p32 l.reverse).toInt = (gB 32 l : Int)
  | [], _, _ => by decide
  | c :: l, h, hl => by
    have hl2 : l.length ≤ 6 := by simp at hl; omega
    have hc := h c (List.mem_cons_self ..)
    have ht : Lts l := fun z hz => h z (List.mem_cons_of_mem _ hz)
    have ih := p32_i ht (by omega)
    have lt := gB_lt (B := 32) (by decide) ht
    have lt2 : gB 32 l < 32 ^ 6 := Nat.lt_of_lt_of_le lt (Nat.pow_le_pow_right (by decide) hl2)
    unfold p32 at ih ⊢
    rw [List.reverse_cons, List.foldl_append, List.foldl_cons, List.foldl_nil, wlt_i ih lt2 hc]
    rfl
theorem p27_i : ∀ {l : List Int32}, Lts l → l.length ≤ 7 → (p27 l.reverse).toInt = (gB 27 l : Int)
  | [], _, _ => by decide
  | c :: l, h, hl => by
    have hl2 : l.length ≤ 6 := by simp at hl; omega
    have hc := h c (List.mem_cons_self ..)
    have ht : Lts l := fun z hz => h z (List.mem_cons_of_mem _ hz)
    have ih := p27_i ht (by omega)
    have lt := gB_lt (B := 27) (by decide) ht
    have lt2 : gB 27 l < 27 ^ 6 := Nat.lt_of_lt_of_le lt (Nat.pow_le_pow_right (by decide) hl2)
    unfold p27 at ih ⊢
    rw [List.reverse_cons, List.foldl_append, List.foldl_cons, List.foldl_nil, s27_i ih lt2 hc]
    rfl
/-- a WORD: the class's number v and the reference's w are of the same letters -/
def Wd (v w : Int64) : Prop := ∃ ls : List Int32, ls.length ≤ 7 ∧ Lts ls ∧ v = p32 ls ∧ w = p27 ls
theorem lts_rev {ls : List Int32} (h : Lts ls) : Lts ls.reverse := fun c hc => h c (List.mem_reverse.mp hc)
theorem p32_inj {l1 l2 : List Int32} (h1 : Lts l1) (h2 : Lts l2) (n1 : l1.length ≤ 7) (n2 : l2.length ≤ 7) (e : p32 l1 = p32 l2) : l1 = l2 := by
  have a := p32_i (l := l1.reverse) (lts_rev h1) (by rw [List.length_reverse]; exact n1)
  have b := p32_i (l := l2.reverse) (lts_rev h2) (by rw [List.length_reverse]; exact n2)
  rw [List.reverse_reverse] at a b
  rw [e, b] at a
  exact List.reverse_inj.mp (gB_inj (B := 32) (by decide) (lts_rev h1) (lts_rev h2) (by omega))
theorem p27_inj {l1 l2 : List Int32} (h1 : Lts l1) (h2 : Lts l2) (n1 : l1.length ≤ 7) (n2 : l2.length ≤ 7) (e : p27 l1 = p27 l2) : l1 = l2 := by
  have a := p27_i (l := l1.reverse) (lts_rev h1) (by rw [List.length_reverse]; exact n1)
  have b := p27_i (l := l2.reverse) (lts_rev h2) (by rw [List.length_reverse]; exact n2)
  rw [List.reverse_reverse] at a b
  rw [e, b] at a
  exact List.reverse_inj.mp (gB_inj (B := 27) (by decide) (lts_rev h1) (lts_rev h2) (by omega))
theorem wd_inj {v w v2 w2 : Int64} (h : Wd v w) (h2 : Wd v2 w2) : v = v2 ↔ w = w2 := by
  obtain ⟨l1, n1, t1, a1, b1⟩ := h
  obtain ⟨l2, n2, t2, a2, b2⟩ := h2
  subst a1 b1 a2 b2
  exact ⟨fun e => by rw [p32_inj t1 t2 n1 n2 e], fun e => by rw [p27_inj t1 t2 n1 n2 e]⟩
