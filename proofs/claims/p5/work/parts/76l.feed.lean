/-! bytes that are fed -/
theorem nar8 (s : Int32) : (vp_nar .byte s.toInt8.toInt32).toInt = s.toInt.bmod 256 := by
  have e : vp_nar .byte s.toInt8.toInt32 = s.toInt8.toInt32.toInt8.toInt32 := rfl
  rw [e, Int8.toInt_toInt32, Int32.toInt_toInt8, Int8.toInt_toInt32, Int32.toInt_toInt8]
  simp only [Int.bmod_def]
  omega
theorem sar_i (w : Int32) (k : Int32) (n : Nat) (hk : (k.toBitVec.smod 32).toNat = n) : (w >>> k).toInt = w.toInt / ((2 ^ n : Nat) : Int) := by
  have e : (w >>> k).toBitVec = w.toBitVec.sshiftRight' (k.toBitVec.smod 32) := Int32.toBitVec_shiftRight _ _
  show (w >>> k).toBitVec.toInt = _
  rw [e, BitVec.sshiftRight_eq', hk, BitVec.toInt_sshiftRight, Int.shiftRight_eq_div_pow]
  rfl
theorem shr_n (w : Int32) (k : UInt32) (n : Nat) (hk : (k.toBitVec % 32).toNat = n) : ((Int32.toUInt32 w >>> k).toInt32 &&& 255).toBitVec.toNat = (w.toBitVec.toNat / 2 ^ n) % 256 := by
  have e1 : ((Int32.toUInt32 w >>> k).toInt32 &&& 255).toBitVec = (Int32.toUInt32 w >>> k).toBitVec &&& 255#32 := rfl
  have e2 : (Int32.toUInt32 w >>> k).toBitVec = w.toBitVec >>> (k.toBitVec % 32) := UInt32.toBitVec_shiftRight ..
  rw [e1, e2, BitVec.toNat_and, BitVec.ushiftRight_eq', hk, BitVec.toNat_ushiftRight, Nat.shiftRight_eq_div_pow]
  exact Nat.and_two_pow_sub_one_eq_mod _ 8
theorem by_c {w s m : Int32} {n : Nat} (hn : n = 24 ∨ n = 16 ∨ n = 8 ∨ n = 0) (hs : s.toInt = w.toInt / ((2 ^ n : Nat) : Int)) (hm : m.toBitVec.toNat = (w.toBitVec.toNat / 2 ^ n) % 256) : By_ (vp_nar .byte s.toInt8.toInt32) m := by
  have u := w.toBitVec.isLt
  have e1 : w.toInt = if 2 * w.toBitVec.toNat < 2 ^ 32 then (w.toBitVec.toNat : Int) else (w.toBitVec.toNat : Int) - ((2 ^ 32 : Nat) : Int) := w.toBitVec.toInt_eq_toNat_cond
  have e2 : m.toInt = if 2 * m.toBitVec.toNat < 2 ^ 32 then (m.toBitVec.toNat : Int) else (m.toBitVec.toNat : Int) - ((2 ^ 32 : Nat) : Int) := m.toBitVec.toInt_eq_toNat_cond
  have e3 : m.toInt = (m.toBitVec.toNat : Int) := by rw [e2, if_pos (by omega)]
  have e4 := nar8 s
  rw [hs, Int.bmod_def] at e4
  refine ⟨by omega, by omega, ?_⟩
  rw [e4, e3]
  rcases hn with h | h | h | h <;> subst h <;> simp only [Nat.reducePow] at * <;> split at e1 <;> split <;> split <;> omega
theorem by_24 (w : Int32) : By_ (vp_nar .byte (w >>> (24 &&& 31)).toInt8.toInt32) ((Int32.toUInt32 w >>> (Int32.toUInt32 24 &&& Int32.toUInt32 31)).toInt32 &&& 255) := by_c (n := 24) (w := w) (Or.inl rfl) (sar_i w _ 24 (by decide)) (shr_n w _ 24 (by decide))
theorem by_16 (w : Int32) : By_ (vp_nar .byte (w >>> (16 &&& 31)).toInt8.toInt32) ((Int32.toUInt32 w >>> (Int32.toUInt32 16 &&& Int32.toUInt32 31)).toInt32 &&& 255) := by_c (n := 16) (w := w) (Or.inr (Or.inl rfl)) (sar_i w _ 16 (by decide)) (shr_n w _ 16 (by decide))
theorem by_8 (w : Int32) : By_ (vp_nar .byte (w >>> (8 &&& 31)).toInt8.toInt32) ((Int32.toUInt32 w >>> (Int32.toUInt32 8 &&& Int32.toUInt32 31)).toInt32 &&& 255) := by_c (n := 8) (w := w) (Or.inr (Or.inr (Or.inl rfl))) (sar_i w _ 8 (by decide)) (shr_n w _ 8 (by decide))
theorem by_0 (w : Int32) : By_ (vp_nar .byte (w >>> (0 &&& 31)).toInt8.toInt32) ((Int32.toUInt32 w >>> (Int32.toUInt32 0 &&& Int32.toUInt32 31)).toInt32 &&& 255) := by_c (n := 0) (w := w) (Or.inr (Or.inr (Or.inr rfl))) (sar_i w _ 0 (by decide)) (shr_n w _ 0 (by decide))
/-- both tapes have the same bytes -/
def Bs (t : TP_) (m : MT_) (n : NR_) : Prop := t.len = n.taped ∧ 0 ≤ n.taped.toInt ∧ ∀ j : Nat, (j : Int) < n.taped.toInt → By_ (t.by_ j) (m.tp j)
theorem putB {t : TP_} {m : MT_} {n : NR_} {v u : Int32} (h : Bs t m n) (h9 : n.taped.toInt < 940) (hb : By_ (vp_nar .byte v.toInt8.toInt32) u) : Bs (fPutB v t) (mPutB u m n).1 (mPutB u m n).2 ∧ (mPutB u m n).2.taped.toInt = n.taped.toInt + 1 := by
  obtain ⟨h1, h2, h3⟩ := h
  have e := add1 (x := n.taped) (by omega)
  refine ⟨⟨?_, ?_, fun j hj => ?_⟩, e⟩
  · show t.len + 1 = n.taped + 1
    rw [h1]
  · show 0 ≤ (n.taped + 1).toInt
    omega
  · have hj2 : (j : Int) < (n.taped + 1).toInt := hj
    show By_ (up1 t.by_ t.len.toNatClampNeg (vp_nar .byte v.toInt8.toInt32) j) (up1 m.tp n.taped.toNatClampNeg u j)
    rw [h1]
    by_cases z : j = n.taped.toNatClampNeg
    · rw [z, up1_s, up1_s]; exact hb
    · rw [up1_j z, up1_j z]
      exact h3 j (by rw [nnI] at z; omega)
theorem addB {t : TP_} {m : MT_} {n : NR_} {w : Int32} (h : Bs t m n) (h9 : n.taped.toInt ≤ 936) : Bs (fAdd w t) (mCome w m n).1 (mCome w m n).2 ∧ (mCome w m n).2.taped.toInt = n.taped.toInt + 4 := by
  have t940 : (940 : Int32).toInt = 940 := by decide
  have lt : ∀ {t : TP_} {m : MT_} {n : NR_}, Bs t m n → n.taped.toInt < 940 → ¬ (940 : Int32) ≤ t.len := fun {t m n} h q z => by
    have := leI.mp z
    rw [h.1, t940] at this; omega
  obtain ⟨a1, a2⟩ := putB h (by omega) (by_24 w)
  obtain ⟨b1, b2⟩ := putB a1 (by omega) (by_16 w)
  obtain ⟨c1, c2⟩ := putB b1 (by omega) (by_8 w)
  obtain ⟨d1, d2⟩ := putB c1 (by omega) (by_0 w)
  have e : fAdd w t = fPutB (w >>> (0 &&& 31)) (fPutB (w >>> (8 &&& 31)) (fPutB (w >>> (16 &&& 31)) (fPutB (w >>> (24 &&& 31)) t))) := by
    unfold fAdd
    simp only [eq_false (lt h (by omega)), eq_false (lt a1 (by omega)), eq_false (lt b1 (by omega)), eq_false (lt c1 (by omega)), if_false]
  refine ⟨?_, ?_⟩
  · rw [e]; exact d1
  · show _ = _
    have := d2
    unfold mCome
    simp only []
    omega
theorem feedB {t : TP_} {m : MT_} {n : NR_} {a b c d e : Int32} (h : Bs t m n) (h9 : n.taped.toInt ≤ 940) : (fFeed a b c d e t).1 = (mFeed a b c d e m n).1 ∧ Bs (fFeed a b c d e t).2 (mFeed a b c d e m n).2.1 (mFeed a b c d e m n).2.2 := by
  have t920 : (920 : Int32).toInt = 920 := by decide
  have t940 : (940 : Int32).toInt = 940 := by decide
  have t20 : (20 : Int32).toInt = 20 := by decide
  have h0 := h.2.1
  have e20 : (n.taped + 20).toInt = n.taped.toInt + 20 := by rw [i_add (by rw [t20]; omega) (by rw [t20]; omega), t20]
  by_cases q : t.len ≤ 920
  · have q2 := leI.mp q
    rw [h.1, t920] at q2
    have q3 : n.taped + 20 ≤ 940 := leI.mpr (by rw [e20, t940]; omega)
    obtain ⟨a1, a2⟩ := addB (w := a) h (by omega)
    obtain ⟨b1, b2⟩ := addB (w := b) a1 (by omega)
    obtain ⟨c1, c2⟩ := addB (w := c) b1 (by omega)
    obtain ⟨d1, d2⟩ := addB (w := d) c1 (by omega)
    obtain ⟨e1, e2⟩ := addB (w := e) d1 (by omega)
    unfold fFeed mFeed
    simp only [eq_true q, eq_true q3, if_true]
    exact ⟨e1.1, e1⟩
  · have q3 : ¬ n.taped + 20 ≤ 940 := fun z => by
      have := leI.mp z
      rw [leI, h.1, t920] at q
      rw [e20, t940] at this; omega
    unfold fFeed mFeed
    simp only [eq_false q, eq_false q3, if_false]
    first | exact ⟨trivial, h⟩ | exact ⟨rfl, h⟩
