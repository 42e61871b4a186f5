/-! what calls do to the tape, told alike of class and model: c bytes before, d behind -/
def Tf_ (c d r : Int32) : Prop := (c.toInt ≤ 920 ∧ d = r ∧ r.toInt = c.toInt + 20) ∨ (920 < c.toInt ∧ r = (-1) ∧ d = c)
def Te_ (c d n r : Int32) : Prop := (0 ≤ n.toInt ∧ n.toInt ≤ c.toInt ∧ r = 1 ∧ d = n) ∨ ((n.toInt < 0 ∨ c.toInt < n.toInt) ∧ r = 0 ∧ d = c)
def Tb_ (c d n : Int32) : Prop := ((n = 0 ∨ n = 1) ∧ d = 0) ∨ (¬ n = 0 ∧ ¬ n = 1 ∧ d = c)
def Ti_ (n r : Int32) : Prop := (0 ≤ n.toInt ∧ n.toInt ≤ 1 ∧ r = 1) ∨ ((n.toInt < 0 ∨ 1 < n.toInt) ∧ r = 0)
theorem tf_1 {c d r d2 r2 : Int32} (h : Tf_ c d r) (h2 : Tf_ c d2 r2) : r = r2 ∧ d = d2 := by
  rcases h with ⟨a1, a2, a3⟩ | ⟨a1, a2, a3⟩ <;> rcases h2 with ⟨b1, b2, b3⟩ | ⟨b1, b2, b3⟩
  · have e : r = r2 := Int32.toInt_inj.mp (by omega)
    exact ⟨e, by rw [a2, b2, e]⟩
  · omega
  · omega
  · exact ⟨by rw [a2, b2], by rw [a3, b3]⟩
theorem te_1 {c d n r d2 r2 : Int32} (h : Te_ c d n r) (h2 : Te_ c d2 n r2) : r = r2 ∧ d = d2 := by
  rcases h with ⟨a1, a2, a3, a4⟩ | ⟨a1, a2, a3⟩ <;> rcases h2 with ⟨b1, b2, b3, b4⟩ | ⟨b1, b2, b3⟩
  · exact ⟨by rw [a3, b3], by rw [a4, b4]⟩
  · omega
  · omega
  · exact ⟨by rw [a2, b2], by rw [a3, b3]⟩
theorem tb_1 {c d n d2 : Int32} (h : Tb_ c d n) (h2 : Tb_ c d2 n) : d = d2 := by
  rcases h with ⟨a1, a2⟩ | ⟨a1, a2, a3⟩ <;> rcases h2 with ⟨b1, b2⟩ | ⟨b1, b2, b3⟩
  · rw [a2, b2]
  · rcases a1 with a1 | a1
    · exact absurd a1 b1
    · exact absurd a1 b2
  · rcases b1 with b1 | b1
    · exact absurd b1 a1
    · exact absurd b1 a2
  · rw [a3, b3]
theorem ti_1 {n r r2 : Int32} (h : Ti_ n r) (h2 : Ti_ n r2) : r = r2 := by
  rcases h with ⟨a1, a2, a3⟩ | ⟨a1, a2⟩ <;> rcases h2 with ⟨b1, b2, b3⟩ | ⟨b1, b2⟩
  · rw [a3, b3]
  · omega
  · omega
  · rw [a2, b2]
section EFF
variable {I I2 : Nat → Nat → Int32} {x : Nat}
theorem ad_4 {z v : Int32} {k : Int} (h1 : I2 x 5 = z) (h0 : I x 5 = v) (h : z.toInt = v.toInt + k) : (I2 x 5).toInt = (I x 5).toInt + k := by rw [h1, h0]; exact h
theorem ad_x {v : Int32} {a b k : Int} (lo hi : Int) (e : (I2 x 5).toInt = (I x 5).toInt + k) (hv : I x 5 = v) (hr : Rg a b v) (h1 : lo = a + k) (h2 : hi = b + k) : ∃ z, I2 x 5 = z ∧ Rg lo hi z ∧ z.toInt = v.toInt + k := ⟨_, rfl, by rw [hv] at e; unfold Rg at *; omega, by rw [e, hv]⟩
end EFF
/-! what count answers -/
def Cn_ (n c0 c1 c2 c3 c4 r : Int32) : Prop := (n.toInt = 0 → r = c0) ∧ (n.toInt = 1 → r = c1) ∧ (n.toInt = 2 → r = c2) ∧ (n.toInt = 3 → r = c3) ∧ (n.toInt = 4 → r = c4) ∧ ((n.toInt < 0 ∨ 4 < n.toInt) → r = -1)
theorem cn_1 {n c0 c1 c2 c3 c4 d0 d1 d2 d3 d4 r r2 : Int32} (h : Cn_ n c0 c1 c2 c3 c4 r) (h2 : Cn_ n d0 d1 d2 d3 d4 r2) (e0 : c0 = d0) (e1 : c1 = d1) (e2 : c2 = d2) (e3 : c3 = d3) (e4 : c4 = d4) : r = r2 := by
  obtain ⟨a0, a1, a2, a3, a4, a5⟩ := h
  obtain ⟨b0, b1, b2, b3, b4, b5⟩ := h2
  rcases (show n.toInt = 0 ∨ n.toInt = 1 ∨ n.toInt = 2 ∨ n.toInt = 3 ∨ n.toInt = 4 ∨ (n.toInt < 0 ∨ 4 < n.toInt) by omega) with q | q | q | q | q | q
  · rw [a0 q, b0 q, e0]
  · rw [a1 q, b1 q, e1]
  · rw [a2 q, b2 q, e2]
  · rw [a3 q, b3 q, e3]
  · rw [a4 q, b4 q, e4]
  · rw [a5 q, b5 q]
