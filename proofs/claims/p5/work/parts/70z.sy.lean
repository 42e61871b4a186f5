section SYZ
variable {I I2 : Nat → Nat → Int32} {x : Nat}
def Sz_ (x : Nat) (I I2 : Nat → Nat → Int32) (c : Int) : Prop := (I x 47).toInt ≤ (I2 x 47).toInt ∧ (I x 48).toInt + 1 ≤ (I2 x 48).toInt ∧ 2 * (I x 48).toInt - (I x 47).toInt + c ≤ 2 * (I2 x 48).toInt - (I2 x 47).toInt ∧ (I2 x 50).toInt < (I2 x 47).toInt
theorem sz_v {n o n2 o2 t2 : Int32} {c : Int} (e1 : I x 47 = n) (e2 : I x 48 = o) (e3 : I2 x 47 = n2) (e4 : I2 x 48 = o2) (e5 : I2 x 50 = t2) (h : Sz_ x I I2 c) : n.toInt ≤ n2.toInt ∧ o.toInt + 1 ≤ o2.toInt ∧ 2 * o.toInt - n.toInt + c ≤ 2 * o2.toInt - n2.toInt ∧ t2.toInt < n2.toInt := by
  unfold Sz_ at h; rw [e1, e2, e3, e4, e5] at h; exact h
theorem sz_m {n o n2 o2 t2 : Int32} {c : Int} (e1 : I x 47 = n) (e2 : I x 48 = o) (e3 : I2 x 47 = n2) (e4 : I2 x 48 = o2) (e5 : I2 x 50 = t2) (h : n.toInt ≤ n2.toInt ∧ o.toInt + 1 ≤ o2.toInt ∧ 2 * o.toInt - n.toInt + c ≤ 2 * o2.toInt - n2.toInt ∧ t2.toInt < n2.toInt) : Sz_ x I I2 c := by
  unfold Sz_; rw [e1, e2, e3, e4, e5]; exact h
end SYZ
