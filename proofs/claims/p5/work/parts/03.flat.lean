/-! flat memory: ints I, longs J, references R, by address and place; a kind κ and a length ln for each address of the pool L -/
def GT : List Cond := lw_tbl.filter goodWord
theorem gt_in {w : Cond} (i : Nat) (h : lw_tbl[i]? = some w) (g : goodWord w = true) : w ∈ GT := List.mem_filter.mpr ⟨List.mem_of_getElem? h, g⟩
theorem gt_good {w : Cond} (h : w ∈ GT) : (w.onTables && w.keeps) = true ∨ ∃ ty, w = .arrayClass ty := good_of_word (List.mem_filter.mp h).2
theorem gt_gi {c : Cond} {ws : List Cond} (h : ∀ w ∈ ws, w ∈ GT) : GoodIn (c :: GT) ws := fun w hw => ⟨List.mem_cons_of_mem _ (h w hw), gt_good (h w hw)⟩
theorem gt_tbl {w : Cond} (h : w ∈ GT) : w ∈ lw_tbl := (List.mem_filter.mp h).1
theorem gt_gl {ws : List Cond} (h : ∀ w ∈ ws, w ∈ GT) : GoodIn lw_tbl ws := fun w hw => ⟨gt_tbl (h w hw), gt_good (h w hw)⟩
theorem gt_c {c : Cond} (h : c ∈ GT) : ∀ w ∈ (c :: GT), w ∈ GT := fun w hw => (List.mem_cons.mp hw).elim (fun e => e ▸ h) id
def fk_ : List (List Nat) := [[2, 2, 2, 2, 0, 0, 0, 0, 0, 0], [2, 2, 2, 2, 2, 2, 2, 0, 0, 0, 0, 0, 0, 0], [2, 0, 0], [2, 2, 2, 0], [2, 2, 2, 0, 0], [2, 0, 0], [2, 0], [2, 2, 2, 2, 0, 0], [2, 2, 2, 2, 2, 0, 0, 0, 0], [2, 2, 0, 0], [2, 2, 2, 2, 2, 0, 0, 0, 0, 0, 1, 0, 0], [2, 2, 2, 2, 2, 2, 2, 2, 2, 2, 2, 2, 2, 2, 0], [0, 2, 0, 0, 0, 0, 0, 0, 0, 0, 0, 0, 1, 0, 2, 2, 2, 2, 2, 2, 2, 2, 2, 0, 0, 0, 2, 2, 2, 0, 0, 2, 0, 0, 2, 2, 2, 0, 0, 2, 0, 0, 2, 2, 0, 0, 2, 0, 0, 0, 0]]
def sv_ (I : Nat → Nat → Int32) (J : Nat → Nat → Int64) (R : Nat → Nat → Option Nat) (a k t : Nat) : Value := match t with
  | 0 => .int (I a k)
  | 1 => .long (J a k)
  | _ => va_rf (R a k)
def fs_ (I : Nat → Nat → Int32) (J : Nat → Nat → Int64) (R : Nat → Nat → Option Nat) (a : Nat) : Nat → List Nat → List Value
  | _, [] => []
  | k, t :: l => sv_ I J R a k t :: fs_ I J R a (k + 1) l
def u2_ {α : Type} (f : Nat → Nat → α) (a k : Nat) (v : α) : Nat → Nat → α := fun b j => if b = a ∧ j = k then v else f b j
theorem u2_s {α : Type} {f : Nat → Nat → α} {a k : Nat} {v : α} : u2_ f a k v a k = v := by simp [u2_]
theorem u2_j {α : Type} {f : Nat → Nat → α} {a k b j : Nat} {v : α} (h : j ≠ k) : u2_ f a k v b j = f b j := by simp [u2_, h]
theorem u2_b {α : Type} {f : Nat → Nat → α} {a k b j : Nat} {v : α} (h : b ≠ a) : u2_ f a k v b j = f b j := by simp [u2_, h]
theorem u2_k {α : Type} {κ : Nat → Nat} {f : Nat → Nat → α} {a k b j : Nat} {v : α} (h : κ b ≠ κ a) : u2_ f a k v b j = f b j := u2_b (fun e => h (by rw [e]))
theorem fs_len (I : Nat → Nat → Int32) (J : Nat → Nat → Int64) (R : Nat → Nat → Option Nat) (a : Nat) : ∀ (l : List Nat) (k0 : Nat), (fs_ I J R a k0 l).length = l.length
  | [], _ => rfl
  | t :: l, k0 => by simp [fs_, fs_len I J R a l (k0 + 1)]
theorem fs_get (I : Nat → Nat → Int32) (J : Nat → Nat → Int64) (R : Nat → Nat → Option Nat) (a : Nat) : ∀ (l : List Nat) (k0 k t : Nat), l[k]? = some t → (fs_ I J R a k0 l)[k]? = some (sv_ I J R a (k0 + k) t)
  | [], _, k, _, h => by simp at h
  | t0 :: l, k0, 0, t, h => by simp at h; subst h; simp [fs_]
  | t0 :: l, k0, k + 1, t, h => by
    have h2 : l[k]? = some t := by simpa using h
    have h3 := fs_get I J R a l (k0 + 1) k t h2
    simp only [fs_, List.getElem?_cons_succ]
    rw [h3, show k0 + 1 + k = k0 + (k + 1) by omega]
theorem fs_cong {I I' : Nat → Nat → Int32} {J J' : Nat → Nat → Int64} {R R' : Nat → Nat → Option Nat} {a : Nat} : ∀ (l : List Nat) (k0 : Nat), (∀ j, k0 ≤ j → I a j = I' a j ∧ J a j = J' a j ∧ R a j = R' a j) → fs_ I J R a k0 l = fs_ I' J' R' a k0 l
  | [], _, _ => rfl
  | t :: l, k0, h => by
    obtain ⟨h1, h2, h3⟩ := h k0 (Nat.le_refl _)
    simp only [fs_]
    rw [fs_cong l (k0 + 1) (fun j hj => h j (by omega))]
    congr 1
    simp only [sv_, h1, h2, h3]
theorem fs_setI {I : Nat → Nat → Int32} {J : Nat → Nat → Int64} {R : Nat → Nat → Option Nat} {a : Nat} {v : Int32} : ∀ (l : List Nat) (k0 k : Nat), l[k]? = some 0 → (fs_ I J R a k0 l).set k (.int v) = fs_ (u2_ I a (k0 + k) v) J R a k0 l
  | [], _, k, h => by simp at h
  | t0 :: l, k0, 0, h => by
    simp at h; subst h
    simp only [fs_, List.set_cons_zero, Nat.add_zero]
    rw [fs_cong (I := I) (I' := u2_ I a k0 v) (J' := J) (R' := R) l (k0 + 1) (fun j hj => ⟨(u2_j (by omega)).symm, rfl, rfl⟩)]
    simp [sv_, u2_s]
  | t0 :: l, k0, k + 1, h => by
    have h2 : l[k]? = some 0 := by simpa using h
    simp only [fs_, List.set_cons_succ]
    rw [fs_setI l (k0 + 1) k h2, show k0 + 1 + k = k0 + (k + 1) by omega]
    congr 1
    simp only [sv_, u2_j (f := I) (b := a) (show k0 ≠ k0 + (k + 1) by omega)]
theorem fs_setJ {I : Nat → Nat → Int32} {J : Nat → Nat → Int64} {R : Nat → Nat → Option Nat} {a : Nat} {v : Int64} : ∀ (l : List Nat) (k0 k : Nat), l[k]? = some 1 → (fs_ I J R a k0 l).set k (.long v) = fs_ I (u2_ J a (k0 + k) v) R a k0 l
  | [], _, k, h => by simp at h
  | t0 :: l, k0, 0, h => by
    simp at h; subst h
    simp only [fs_, List.set_cons_zero, Nat.add_zero]
    rw [fs_cong (I := I) (I' := I) (J := J) (J' := u2_ J a k0 v) (R' := R) l (k0 + 1) (fun j hj => ⟨rfl, (u2_j (by omega)).symm, rfl⟩)]
    simp [sv_, u2_s]
  | t0 :: l, k0, k + 1, h => by
    have h2 : l[k]? = some 1 := by simpa using h
    simp only [fs_, List.set_cons_succ]
    rw [fs_setJ l (k0 + 1) k h2, show k0 + 1 + k = k0 + (k + 1) by omega]
    congr 1
    simp only [sv_, u2_j (f := J) (b := a) (show k0 ≠ k0 + (k + 1) by omega)]
theorem fs_setR {I : Nat → Nat → Int32} {J : Nat → Nat → Int64} {R : Nat → Nat → Option Nat} {a : Nat} {v : Nat} : ∀ (l : List Nat) (k0 k : Nat), l[k]? = some 2 → (fs_ I J R a k0 l).set k (.ref v) = fs_ I J (u2_ R a (k0 + k) (some v)) a k0 l
  | [], _, k, h => by simp at h
  | t0 :: l, k0, 0, h => by
    simp at h; subst h
    simp only [fs_, List.set_cons_zero, Nat.add_zero]
    rw [fs_cong (I := I) (I' := I) (J := J) (J' := J) (R := R) (R' := u2_ R a k0 (some v)) l (k0 + 1) (fun j hj => ⟨rfl, rfl, (u2_j (by omega)).symm⟩)]
    simp [sv_, u2_s, va_rf]
  | t0 :: l, k0, k + 1, h => by
    have h2 : l[k]? = some 2 := by simpa using h
    simp only [fs_, List.set_cons_succ]
    rw [fs_setR l (k0 + 1) k h2, show k0 + 1 + k = k0 + (k + 1) by omega]
    congr 1
    simp only [sv_, u2_j (f := R) (b := a) (show k0 ≠ k0 + (k + 1) by omega)]
/-- the cell at an address, by its kind: 0 to 12 objects, 13 bytes, 14 ints, 15 longs, 16 booleans, 17 and 18 references -/
def cel_ (cy : Nat → ClassId) (κ ln : Nat → Nat) (R : Nat → Nat → Option Nat) (I : Nat → Nat → Int32) (J : Nat → Nat → Int64) (a : Nat) : va_E :=
  if κ a < 13 then .inr (κ a, fs_ I J R a 0 (fk_.getD (κ a) []))
  else if κ a = 15 then .inl (cy 15, ln a, .inr (.inl (J a)))
  else if κ a < 17 then .inl (cy (κ a), ln a, .inl (I a))
  else .inl (cy (κ a), ln a, .inr (.inr (.inr (.inr (R a)))))
def tys_ (cy : Nat → ClassId) : List (ClassId × FieldType) := [(cy 13, .byte), (cy 14, .int), (cy 15, .long), (cy 16, .boolean), (cy 17, .object RX1), (cy 18, .object RX3)]
theorem cel_o {cy : Nat → ClassId} {κ ln : Nat → Nat} {R : Nat → Nat → Option Nat} {I : Nat → Nat → Int32} {J : Nat → Nat → Int64} {a ci : Nat} (h : κ a = ci) (hc : ci < 13) : cel_ cy κ ln R I J a = .inr (ci, fs_ I J R a 0 (fk_.getD ci [])) := by
  unfold cel_; rw [h, if_pos hc]
theorem cel_i {cy : Nat → ClassId} {κ ln : Nat → Nat} {R : Nat → Nat → Option Nat} {I : Nat → Nat → Int32} {J : Nat → Nat → Int64} {a ci : Nat} (h : κ a = ci) (h1 : ci = 13 ∨ ci = 14 ∨ ci = 16) : cel_ cy κ ln R I J a = .inl (cy ci, ln a, .inl (I a)) := by
  unfold cel_; rw [h, if_neg (by omega), if_neg (by omega), if_pos (by omega)]
theorem cel_l {cy : Nat → ClassId} {κ ln : Nat → Nat} {R : Nat → Nat → Option Nat} {I : Nat → Nat → Int32} {J : Nat → Nat → Int64} {a : Nat} (h : κ a = 15) : cel_ cy κ ln R I J a = .inl (cy 15, ln a, .inr (.inl (J a))) := by
  unfold cel_; rw [h, if_neg (by omega), if_pos rfl]
theorem cel_r {cy : Nat → ClassId} {κ ln : Nat → Nat} {R : Nat → Nat → Option Nat} {I : Nat → Nat → Int32} {J : Nat → Nat → Int64} {a ci : Nat} (h : κ a = ci) (h1 : 17 ≤ ci) : cel_ cy κ ln R I J a = .inl (cy ci, ln a, .inr (.inr (.inr (.inr (R a))))) := by
  unfold cel_; rw [h, if_neg (by omega), if_neg (by omega), if_neg (by omega)]
theorem cel_cong {cy : Nat → ClassId} {κ κ' ln ln' : Nat → Nat} {R R' : Nat → Nat → Option Nat} {I I' : Nat → Nat → Int32} {J J' : Nat → Nat → Int64} {b : Nat} (h0 : κ b = κ' b) (h1 : ln b = ln' b) (hI : ∀ j, I b j = I' b j) (hJ : ∀ j, J b j = J' b j) (hR : ∀ j, R b j = R' b j) : cel_ cy κ ln R I J b = cel_ cy κ' ln' R' I' J' b := by
  unfold cel_
  rw [h0, h1, fs_cong (I' := I') (J' := J') (R' := R') (fk_.getD (κ' b) []) 0 (fun j _ => ⟨hI j, hJ j, hR j⟩), funext hI, funext hJ, funext hR]
