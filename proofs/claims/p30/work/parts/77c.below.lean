/-! parents are told ahead of their children -/
def Pt_ (b : TB_) : Prop := 0 ≤ b.persons.toInt ∧ b.persons.toInt ≤ 7 ∧ ∀ j : Nat, (j : Int) < b.persons.toInt → Pa_ j (b.par j)
section BELOW
variable {t : TP_} {b b2 : TB_} {c : CP_} {x : XP_}
theorem pt_same (h : Pt_ b) (e1 : b2.persons = b.persons) (e2 : b2.par = b.par) : Pt_ b2 := by
  unfold Pt_
  rw [e1, e2]; exact h
theorem pt_put {w : Int64} {q : Int32} (h : Pt_ b) (hp : b.persons < 7) (hq : q = -1 ∨ (0 ≤ q.toInt ∧ q.toInt < b.persons.toInt)) : Pt_ (fPutPerson w q b) := by
  obtain ⟨h1, h2, h3⟩ := h
  have hp2 := ltI.mp hp
  rw [show (7 : Int32).toInt = 7 from by decide] at hp2
  have e := add1 (x := b.persons) (by omega)
  have en : b.persons.toNatClampNeg = b.persons.toInt.toNat := nnI _
  refine ⟨show 0 ≤ (b.persons + 1).toInt by omega, show (b.persons + 1).toInt ≤ 7 by omega, fun j hj => ?_⟩
  have hj2 : (j : Int) < (b.persons + 1).toInt := hj
  show Pa_ j (up1 b.par b.persons.toNatClampNeg q j)
  by_cases z : j = b.persons.toNatClampNeg
  · rw [z, up1_s]
    rcases hq with y | ⟨y1, y2⟩
    · exact Or.inl y
    · exact Or.inr ⟨y1, by omega⟩
  · rw [up1_j z]; exact h3 j (by omega)
theorem fnd_r {nm : Nat → Int64} {cnt : Int32} {v : Int64} (hc : cnt.toInt ≤ 7) : ∀ (d : Nat) (i : Int32), 0 ≤ i.toInt → i.toInt + d = 8 → fnd nm cnt v i = -1 ∨ (0 ≤ (fnd nm cnt v i).toInt ∧ (fnd nm cnt v i).toInt < cnt.toInt)
  | 0, i, hi, hd => by
    rw [fnd_eq (⟨hi, by omega⟩ : Rg 0 8 i), if_pos (leI.mpr (by omega))]
    exact Or.inl rfl
  | d + 1, i, hi, hd => by
    have e1 := add1 (x := i) (by omega)
    rw [fnd_eq (⟨hi, by omega⟩ : Rg 0 8 i)]
    by_cases q : cnt ≤ i
    · rw [if_pos q]; exact Or.inl rfl
    · rw [if_neg q]
      rw [leI] at q
      by_cases z : lc_ (nm i.toNatClampNeg) v = 0
      · rw [if_pos z]; exact Or.inr ⟨hi, by omega⟩
      · rw [if_neg z]; exact fnd_r hc d (i + 1) (by omega) (by omega)
theorem tn_r {f : Int32} {s : TP_} {n : Int} (h : f = -1 ∨ (0 ≤ f.toInt ∧ f.toInt < n)) : (fTakeName f s).1 = -1 ∨ (0 ≤ (fTakeName f s).1.toInt ∧ (fTakeName f s).1.toInt < n) := by
  unfold fTakeName
  split
  · split
    · exact Or.inl rfl
    · exact h
  · exact Or.inl rfl
theorem nn_b : (fNewName t b c x).2.2.1 = b := by
  unfold fNewName
  split
  · split
    · split
      · rfl
      · rfl
    · rfl
  · rfl
theorem ite_b {p : Prop} [Decidable p] {u v : Int32 × RS} (h1 : p → Pt_ u.2.2.1) (h2 : ¬ p → Pt_ v.2.2.1) : Pt_ (if p then u else v).2.2.1 := by
  by_cases q : p
  · rw [if_pos q]; exact h1 q
  · rw [if_neg q]; exact h2 q
theorem pt_person (h : Pt_ b) : Pt_ (fReadPerson t b c x).2.2.1 := by
  have e := nn_b (t := fAdvance t) (b := b) (c := c) (x := x)
  have hN : Pt_ (fNewName (fAdvance t) b c x).2.2.1 := by rw [e]; exact h
  unfold fReadPerson
  dsimp only
  rw [e]
  refine ite_b (fun hp => ite_b (fun _ => hN) (fun _ => ite_b (fun _ => hN) (fun _ => ite_b (fun _ => ite_b (fun _ => hN) (fun _ => ?_)) (fun _ => ?_)))) (fun _ => h)
  · exact pt_put h hp (tn_r (fnd_r h.2.1 8 0 (by decide) (by decide)))
  · exact pt_put h hp (Or.inl rfl)
theorem pt_dish (h : Pt_ b) : Pt_ (fReadDish t b c x).2.2.1 := by
  have e := nn_b (t := fAdvance t) (b := b) (c := c) (x := x)
  have hN : Pt_ (fNewName (fAdvance t) b c x).2.2.1 := by rw [e]; exact h
  unfold fReadDish
  dsimp only
  rw [e]
  refine ite_b (fun hp => ite_b (fun _ => hN) (fun _ => ite_b (fun _ => hN) (fun _ => ite_b (fun _ => ite_b (fun _ => hN) (fun _ => ?_)) (fun _ => ?_)))) (fun _ => h)
  · exact pt_same h rfl rfl
  · exact pt_same h rfl rfl
theorem pt_plate3 {p d : Int32} (h : Pt_ b) : Pt_ (fReadPlate3 p d t b c x).2.2.1 := by
  unfold fReadPlate3
  dsimp only
  exact ite_b (fun _ => h) (fun _ => ite_b (fun _ => h) (fun _ => h))
theorem pt_plate (h : Pt_ b) : Pt_ (fReadPlate t b c x).2.2.1 := by
  unfold fReadPlate
  dsimp only
  exact ite_b (fun _ => h) (fun _ => ite_b (fun _ => ite_b (fun _ => pt_plate3 h) (fun _ => ite_b (fun _ => pt_plate3 h) (fun _ => h))) (fun _ => pt_plate3 h))
theorem pt_law (h : Pt_ b) : Pt_ (fReadLaw t b c x).2.2.1 := by
  unfold fReadLaw
  dsimp only
  exact ite_b (fun _ => ite_b (fun _ => pt_same h rfl rfl) (fun _ => ite_b (fun _ => pt_same h rfl rfl) (fun _ => ite_b (fun _ => pt_same h rfl rfl) (fun _ => h)))) (fun _ => h)
theorem pt_dogs (h : Pt_ b) : Pt_ (fReadDogs t b c x).2.2.1 := by
  unfold fReadDogs
  dsimp only
  exact ite_b (fun _ => ite_b (fun _ => pt_same h rfl rfl) (fun _ => ite_b (fun _ => pt_same h rfl rfl) (fun _ => pt_same h rfl rfl))) (fun _ => h)
theorem pt_line (h : Pt_ b) : Pt_ (fReadLine t b c x).2.2.1 := by
  unfold fReadLine
  exact ite_b (fun _ => pt_person h) (fun _ => ite_b (fun _ => pt_dish h) (fun _ => ite_b (fun _ => pt_plate h) (fun _ => ite_b (fun _ => pt_law h) (fun _ => ite_b (fun _ => pt_dogs h) (fun _ => h)))))
theorem pt_rlg : ∀ (k : Nat) (i : Int32) (s : RS), Pt_ s.2.1 → Pt_ (rlg k i s).2.2.1
  | 0, i, s, h => h
  | k + 1, i, s, h => by
    unfold rlg
    dsimp only
    exact ite_b (fun _ => h) (fun _ => ite_b (fun _ => h) (fun _ => ite_b (fun _ => pt_line h) (fun _ => pt_rlg k (i + 1) _ (pt_line h))))
theorem pt_from : Pt_ (fReadFrom t b c x).2.2.1 :=
  pt_rlg _ _ _ ⟨(show 0 ≤ (0 : Int32).toInt from by decide), (show (0 : Int32).toInt ≤ 7 from by decide), fun j hj => by
    have : (j : Int) < (0 : Int32).toInt := hj
    rw [k0] at this; omega⟩
theorem pt_table (h : fTableB t b c x = some b2) : Pt_ b2 := by
  unfold fTableB at h
  dsimp only at h
  by_cases q : (fReadFrom t b c x).2.1.fault = 0
  · rw [if_pos q] at h
    rw [← Option.some.inj h]; exact pt_from
  · rw [if_neg q] at h; cases h
end BELOW
