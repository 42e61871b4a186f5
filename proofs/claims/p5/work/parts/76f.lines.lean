/-! the LINES of a TABLE, one by one -/
theorem zer0 : ((0 : Int32) = 0) = True := eq_true rfl
section TBL
variable {b : TB_} {c : CP_} {x : XP_} {n : NR_}
theorem tb_told {v : Int32} (h : TbR b c x n) : TbR b c x (NR_.w_told n v) := h
theorem tb_rn {k : Nat} {w : Int64} (h : TbR b c x n) (h1 : b.persons.toInt ≤ k) (h2 : (k : Int) < 7 ∨ 7 + b.dishes.toInt ≤ k) : TbR b c x (NR_.w_rn n (up1 n.rn k w)) := by
  obtain ⟨a1, a2, a3, a4, a5, a6, a7, a8, a9, aa, ab, ac, ad, ae⟩ := h
  refine ⟨a1, a2, a3, a4, a5, a6, a7, a8, fun j hj => ?_, fun j hj => ?_, ab, ac, ad, ae⟩
  · show Wd (b.pnm j) (up1 n.rn k w j) ∧ _
    rw [up1_j (by omega)]; exact a9 j hj
  · show Wd (b.dnm j) (up1 n.rn k w (7 + j))
    rw [up1_j (by omega)]; exact aa j hj
theorem tb_rd {k : Nat} {v : Int32} (h : TbR b c x n) (h1 : 4 ≤ k) (h2 : k < 30) (h3 : k < 11 ∨ 11 + b.persons.toInt ≤ k) : TbR b c x (NR_.w_rd n (up1 n.rd k v)) := by
  obtain ⟨a1, a2, a3, a4, a5, a6, a7, a8, a9, aa, ab, ac, ad, ae⟩ := h
  refine ⟨a1, a2, a3, a4, ?_, ?_, ?_, ?_, fun j hj => ⟨(a9 j hj).1, ?_⟩, aa, fun j hj => ?_, ac, ad, ae⟩
  · show up1 n.rd k v 0 = _
    rw [up1_j (by omega)]; exact a5
  · show up1 n.rd k v 1 = _
    rw [up1_j (by omega)]; exact a6
  · show up1 n.rd k v 2 = _
    rw [up1_j (by omega)]; exact a7
  · show up1 n.rd k v 3 = _
    rw [up1_j (by omega)]; exact a8
  · show up1 n.rd k v (11 + j) = _
    rw [up1_j (by omega)]; exact (a9 j hj).2
  · show up1 n.rd k v (30 + j) = _
    rw [up1_j (by omega)]; exact ab j hj
theorem tb_person {w : Int64} {q : Int32} (h : TbR b c x n) (hp : b.persons.toInt < 7) (hw : Wd w (n.rn b.persons.toInt.toNat)) (hq : n.rd (11 + b.persons.toInt.toNat) = q) : TbR (fPutPerson w q b) c x (mInc 0 n) := by
  obtain ⟨a1, a2, a3, a4, a5, a6, a7, a8, a9, aa, ab, ac, ad, ae⟩ := h
  have e := add1 (x := b.persons) (by omega)
  have ep : b.persons.toNatClampNeg = b.persons.toInt.toNat := rfl
  refine ⟨?_, ?_, a3, a4, ?_, ?_, ?_, ?_, fun j hj => ?_, fun j hj => ?_, fun j hj => ?_, ac, ad, ae⟩
  · show 0 ≤ (b.persons + 1).toInt
    omega
  · show (b.persons + 1).toInt ≤ 7
    omega
  · show up1 n.rd 0 (n.rd 0 + 1) 0 = b.persons + 1
    rw [up1_s, a5]
  · show up1 n.rd 0 (n.rd 0 + 1) 1 = _
    rw [up1_j (by decide)]; exact a6
  · show up1 n.rd 0 (n.rd 0 + 1) 2 = _
    rw [up1_j (by decide)]; exact a7
  · show up1 n.rd 0 (n.rd 0 + 1) 3 = _
    rw [up1_j (by decide)]; exact a8
  · have hj2 : (j : Int) < (b.persons + 1).toInt := hj
    show Wd (up1 b.pnm b.persons.toNatClampNeg w j) (n.rn j) ∧ up1 n.rd 0 (n.rd 0 + 1) (11 + j) = up1 b.par b.persons.toNatClampNeg q j
    rw [up1_j (show 11 + j ≠ 0 by omega), ep]
    by_cases z : j = b.persons.toInt.toNat
    · rw [z, up1_s, up1_s]; exact ⟨hw, hq⟩
    · rw [up1_j z, up1_j z]; exact a9 j (by omega)
  · exact aa j hj
  · show up1 n.rd 0 (n.rd 0 + 1) (30 + j) = _
    rw [up1_j (by omega)]; exact ab j hj
theorem tb_dish {w : Int64} (h : TbR b c x n) (hp : b.dishes.toInt < 6) (hw : Wd w (n.rn (7 + b.dishes.toInt.toNat))) : TbR (fPutDish w b) c x (mInc 1 n) := by
  obtain ⟨a1, a2, a3, a4, a5, a6, a7, a8, a9, aa, ab, ac, ad, ae⟩ := h
  have e := add1 (x := b.dishes) (by omega)
  have ep : b.dishes.toNatClampNeg = b.dishes.toInt.toNat := rfl
  refine ⟨a1, a2, ?_, ?_, ?_, ?_, ?_, ?_, fun j hj => ⟨(a9 j hj).1, ?_⟩, fun j hj => ?_, fun j hj => ?_, ac, ad, ae⟩
  · show 0 ≤ (b.dishes + 1).toInt
    omega
  · show (b.dishes + 1).toInt ≤ 6
    omega
  · show up1 n.rd 1 (n.rd 1 + 1) 0 = _
    rw [up1_j (by decide)]; exact a5
  · show up1 n.rd 1 (n.rd 1 + 1) 1 = b.dishes + 1
    rw [up1_s, a6]
  · show up1 n.rd 1 (n.rd 1 + 1) 2 = _
    rw [up1_j (by decide)]; exact a7
  · show up1 n.rd 1 (n.rd 1 + 1) 3 = _
    rw [up1_j (by decide)]; exact a8
  · show up1 n.rd 1 (n.rd 1 + 1) (11 + j) = _
    rw [up1_j (by omega)]; exact (a9 j hj).2
  · have hj2 : (j : Int) < (b.dishes + 1).toInt := hj
    show Wd (up1 b.dnm b.dishes.toNatClampNeg w j) (n.rn (7 + j))
    rw [ep]
    by_cases z : j = b.dishes.toInt.toNat
    · rw [z, up1_s]; exact hw
    · rw [up1_j z]; exact aa j (by omega)
  · show up1 n.rd 1 (n.rd 1 + 1) (30 + j) = _
    rw [up1_j (by omega)]; exact ab j hj
theorem tb_plate {k : Nat} {v : Int32} (h : TbR b c x n) (hk : k < 42) (hv : 0 ≤ v.toInt) : TbR b (CP_.w_pcs c (up1 c.pcs k v)) x (NR_.w_rd n (up1 n.rd (30 + k) v)) := by
  obtain ⟨a1, a2, a3, a4, a5, a6, a7, a8, a9, aa, ab, ac, ad, ae⟩ := h
  refine ⟨a1, a2, a3, a4, ?_, ?_, ?_, ?_, fun j hj => ⟨(a9 j hj).1, ?_⟩, aa, fun j hj => ?_, ac, ad, fun j hj => ?_⟩
  · show up1 n.rd (30 + k) v 0 = _
    rw [up1_j (by omega)]; exact a5
  · show up1 n.rd (30 + k) v 1 = _
    rw [up1_j (by omega)]; exact a6
  · show up1 n.rd (30 + k) v 2 = _
    rw [up1_j (by omega)]; exact a7
  · show up1 n.rd (30 + k) v 3 = _
    rw [up1_j (by omega)]; exact a8
  · show up1 n.rd (30 + k) v (11 + j) = _
    rw [up1_j (by omega)]; exact (a9 j hj).2
  · show up1 n.rd (30 + k) v (30 + j) = up1 c.pcs k v j
    by_cases z : j = k
    · rw [z, up1_s, up1_s]
    · rw [up1_j (by omega), up1_j z]; exact ab j hj
  · show 0 ≤ (up1 c.pcs k v j).toInt
    by_cases z : j = k
    · rw [z, up1_s]; exact hv
    · rw [up1_j z]; exact ae j hj
theorem tb_law {v : Int32} (h : TbR b c x n) : TbR (TB_.w_law b v) c (XP_.w_lt x 1) (NR_.w_rd (NR_.w_hl n 1) (up1 n.rd 2 v)) := by
  obtain ⟨a1, a2, a3, a4, a5, a6, a7, a8, a9, aa, ab, ac, ad, ae⟩ := h
  refine ⟨a1, a2, a3, a4, ?_, ?_, ?_, ?_, fun j hj => ⟨(a9 j hj).1, ?_⟩, aa, fun j hj => ?_, rfl, ad, ae⟩
  · show up1 n.rd 2 v 0 = _
    rw [up1_j (by decide)]; exact a5
  · show up1 n.rd 2 v 1 = _
    rw [up1_j (by decide)]; exact a6
  · show up1 n.rd 2 v 2 = v
    rw [up1_s]
  · show up1 n.rd 2 v 3 = _
    rw [up1_j (by decide)]; exact a8
  · show up1 n.rd 2 v (11 + j) = _
    rw [up1_j (by omega)]; exact (a9 j hj).2
  · show up1 n.rd 2 v (30 + j) = _
    rw [up1_j (by omega)]; exact ab j hj
theorem tb_dogs {v : Int32} (h : TbR b c x n) : TbR (TB_.w_dogs b v) c (XP_.w_dt x 1) (NR_.w_rd (NR_.w_hd n 1) (up1 n.rd 3 v)) := by
  obtain ⟨a1, a2, a3, a4, a5, a6, a7, a8, a9, aa, ab, ac, ad, ae⟩ := h
  refine ⟨a1, a2, a3, a4, ?_, ?_, ?_, ?_, fun j hj => ⟨(a9 j hj).1, ?_⟩, aa, fun j hj => ?_, ac, rfl, ae⟩
  · show up1 n.rd 3 v 0 = _
    rw [up1_j (by decide)]; exact a5
  · show up1 n.rd 3 v 1 = _
    rw [up1_j (by decide)]; exact a6
  · show up1 n.rd 3 v 2 = _
    rw [up1_j (by decide)]; exact a7
  · show up1 n.rd 3 v 3 = v
    rw [up1_s]
  · show up1 n.rd 3 v (11 + j) = _
    rw [up1_j (by omega)]; exact (a9 j hj).2
  · show up1 n.rd 3 v (30 + j) = _
    rw [up1_j (by omega)]; exact ab j hj
variable {A : Int} {t : TP_} {m : MT_}
theorem idx {p : Int32} {k : Nat} {kk : Int32} (hk : kk.toInt = k) (h0 : 0 ≤ p.toInt) (h1 : p.toInt ≤ 7) (hk2 : k ≤ 100) : (kk + p).toNatClampNeg = k + p.toInt.toNat := by
  have : (kk + p).toInt = kk.toInt + p.toInt := i_add (by omega) (by omega)
  rw [nnI]; omega
end TBL
