set_option maxRecDepth 100000 in
set_option maxHeartbeats 4000000 in
theorem w_K {b : Nat} {s : State} (htg : ∀ w ∈ GT, w.before #[Value.ref b] s = true) (hao : va_AO RX1 s ∧ va_AO RX3 s) : ∃ (D : va_G) (cy : Nat → ClassId), va_K D vwCl (tys_ cy) s := by
  obtain ⟨c0, i0, k0⟩ := u_known (ws := GT) htg u_in0 (htg _ cl_11_49.2.1)
  obtain ⟨c1, i1, k1⟩ := u_known (ws := GT) htg u_in1 (htg _ cl_11_23.2.1)
  obtain ⟨c2, i2, k2⟩ := u_known (ws := GT) htg u_in2 (htg _ cl_11_80.2.1)
  obtain ⟨c3, i3, k3⟩ := u_known (ws := GT) htg u_in3 (htg _ cl_11_87.2.1)
  obtain ⟨c4, i4, k4⟩ := u_known (ws := GT) htg u_in4 (htg _ cl_11_66.2.1)
  obtain ⟨c5, i5, k5⟩ := u_known (ws := GT) htg u_in5 (htg _ cl_11_35.2.1)
  obtain ⟨c6, i6, k6⟩ := u_known (ws := GT) htg u_in6 (htg _ cl_11_73.2.1)
  obtain ⟨c7, i7, k7⟩ := u_known (ws := GT) htg u_in7 (htg _ cl_11_56.2.1)
  obtain ⟨c8, i8, k8⟩ := u_known (ws := GT) htg u_in8 (htg _ cl_11_16.2.1)
  obtain ⟨c9, i9, k9⟩ := u_known (ws := GT) htg u_in9 (htg _ cl_11_42.2.1)
  obtain ⟨c10, i10, k10⟩ := u_known (ws := GT) htg u_in10 (htg _ cl_11_7.2.1)
  obtain ⟨c11, i11, k11⟩ := u_known (ws := GT) htg u_in11 (htg _ cl_L_8.2.1)
  obtain ⟨c12, i12, k12⟩ := u_known (ws := GT) htg u_in12 (htg _ cl_L_16.2.1)
  obtain ⟨a13, ka13, cm13, f13, g13, h13⟩ := Cond.arrayClass_spec (htg _ ar_byte)
  obtain ⟨a14, ka14, cm14, f14, g14, h14⟩ := Cond.arrayClass_spec (htg _ ar_int)
  obtain ⟨a15, ka15, cm15, f15, g15, h15⟩ := Cond.arrayClass_spec (htg _ ar_long)
  obtain ⟨a16, ka16, cm16, f16, g16, h16⟩ := Cond.arrayClass_spec (htg _ ar_boolean)
  obtain ⟨cm17, a17, ka17, f17, -, g17, h17, n17⟩ := Cond.arrayOver_spec (args := #[]) (first := s) (o := none) (idx := []) hao.1
  obtain ⟨cm18, a18, ka18, f18, -, g18, h18, n18⟩ := Cond.arrayOver_spec (args := #[]) (first := s) (o := none) (idx := []) hao.2
  refine ⟨(fun c => ([c0, c1, c2, c3, c4, c5, c6, c7, c8, c9, c10, c11, c12] : List ClassId).getD c c0, fun c => ([i0, i1, i2, i3, i4, i5, i6, i7, i8, i9, i10, i11, i12] : List (Nat → Nat)).getD c i0), fun k => ([a13, a14, a15, a16, a17, a18] : List ClassId).getD (k - 13) a13, ?_, ?_⟩
  · intro c q h
    match c, h with
    | 0, h => cases (Option.some.inj (show some (RX0, TX0, 10) = some q from h)); exact k0
    | 1, h => cases (Option.some.inj (show some (RX1, TX1, 14) = some q from h)); exact k1
    | 2, h => cases (Option.some.inj (show some (RX2, TX2, 3) = some q from h)); exact k2
    | 3, h => cases (Option.some.inj (show some (RX3, TX3, 4) = some q from h)); exact k3
    | 4, h => cases (Option.some.inj (show some (RX4, TX4, 5) = some q from h)); exact k4
    | 5, h => cases (Option.some.inj (show some (RX5, TX5, 3) = some q from h)); exact k5
    | 6, h => cases (Option.some.inj (show some (RX6, TX6, 2) = some q from h)); exact k6
    | 7, h => cases (Option.some.inj (show some (RX7, TX7, 6) = some q from h)); exact k7
    | 8, h => cases (Option.some.inj (show some (RX8, TX8, 9) = some q from h)); exact k8
    | 9, h => cases (Option.some.inj (show some (RX9, TX9, 4) = some q from h)); exact k9
    | 10, h => cases (Option.some.inj (show some (RX10, TX10, 13) = some q from h)); exact k10
    | 11, h => cases (Option.some.inj (show some (RX11, TX11, 15) = some q from h)); exact k11
    | 12, h => cases (Option.some.inj (show some (RX12, TX12, 51) = some q from h)); exact k12
    | n + 13, h => exact absurd h (by rw [List.getElem?_eq_none (show vwCl.length ≤ n + 13 from Nat.le_add_left 13 n)]; exact fun h => by cases h)
  · intro k q h
    match k, h with
    | 0, h => cases (Option.some.inj (show some (a13, (.byte : FieldType)) = some q from h)); exact ⟨fun N z => ⟨(fun k h => by cases h), ka13, g13, cm13, h13⟩, f13⟩
    | 1, h => cases (Option.some.inj (show some (a14, (.int : FieldType)) = some q from h)); exact ⟨fun N z => ⟨(fun k h => by cases h), ka14, g14, cm14, h14⟩, f14⟩
    | 2, h => cases (Option.some.inj (show some (a15, (.long : FieldType)) = some q from h)); exact ⟨fun N z => ⟨(fun k h => by cases h), ka15, g15, cm15, h15⟩, f15⟩
    | 3, h => cases (Option.some.inj (show some (a16, (.boolean : FieldType)) = some q from h)); exact ⟨fun N z => ⟨(fun k h => by cases h), ka16, g16, cm16, h16⟩, f16⟩
    | 4, h => cases (Option.some.inj (show some (a17, (.object RX1 : FieldType)) = some q from h)); exact ⟨fun N z => ⟨(fun k h => by cases h), ka17, g17, cm17, h17⟩, ka17, cm17, g17, h17, f17, n17⟩
    | 5, h => cases (Option.some.inj (show some (a18, (.object RX3 : FieldType)) = some q from h)); exact ⟨fun N z => ⟨(fun k h => by cases h), ka18, g18, cm18, h18⟩, ka18, cm18, g18, h18, f18, n18⟩
    | n + 6, h => exact absurd h (by rw [List.getElem?_eq_none (show (tys_ _).length ≤ n + 6 from Nat.le_add_left 6 n)]; exact fun h => by cases h)
set_option maxRecDepth 100000 in
theorem w_nl : ∀ q ∈ nl_, Cond.methodLinkNest q.1 q.2.1 q.2.2 "SecondHelpings" ∈ lw_tbl := by decide +kernel
theorem w_N {b : Nat} {s : State} (hts : ∀ w ∈ lw_tbl, w.before #[Value.ref b] s = true) : Nn_ s := ⟨fun q hq => va_Nw.of rfl (hts _ (w_nl q hq)), va_AO.of (hts _ (List.mem_of_getElem? (i := 390) (by decide +kernel))), va_AO.of (hts _ (List.mem_of_getElem? (i := 555) (by decide +kernel)))⟩
abbrev GV : Cond := Jvm.Cond.and given_1 narrow_1
def te_ (j : Nat) : Cond := Cond.eq (.elem (.field (.string RX10 55) "java/lang/String" "value" "[B") (.int (Int32.ofNat j))) (.int (tb_.getD j 0))
set_option maxRecDepth 100000 in
theorem w_el : ((flatC GV).drop 58).take 158 = (List.range 158).map te_ := by decide +kernel
theorem w_mem {j : Nat} (hj : j < 158) : te_ j ∈ flatC GV := by
  have h : te_ j ∈ (List.range 158).map te_ := List.mem_map.mpr ⟨j, List.mem_range.mpr hj, rfl⟩
  rw [← w_el] at h
  exact List.mem_of_mem_drop (List.mem_of_mem_take h)
set_option maxRecDepth 100000 in
set_option maxHeartbeats 4000000 in
theorem w_E {b : Nat} {s : State} (hts : ∀ w ∈ lw_tbl, w.before #[Value.ref b] s = true) (hgv : GV.before #[Value.ref b] s = true) : ∃ (k v : Nat) (f : Nat → Int32), (∀ i : Nat, f i = tb_.getD i 0) ∧ vk_R RX10 55 tx_ k s ∧ Es_ k v 158 f (AN_ [] s.heap.size) s := by
  have hs := flat_of_before _ hgv
  have hA : ∀ a : Nat, a < s.heap.size → ¬ AN_ [] s.heap.size a := fun a h q => q.elim (fun q => absurd q List.not_mem_nil) (fun q => absurd h (Nat.not_lt.mpr q))
  obtain ⟨adK, adV, h1, h2⟩ := vk_Sof (args := #[Value.ref b]) (s := s) (N := 1) (tm := fun _ => .string RX10 55) (len := [158]) (byt := [tb_]) (A := AN_ [] s.heap.size) (fun i hi => by
    have : i = 0 := by omega
    subst this
    decide) (fun i _ => hs _ (by decide +kernel)) (fun i _ => hs _ (by decide +kernel)) (fun i _ => hs _ (by decide +kernel)) (fun i hi => by
    have : i = 0 := by omega
    subst this
    exact hs _ (by decide +kernel)) (fun i hi j hj => by
    have : i = 0 := by omega
    subst this
    exact hs _ (w_mem hj)) (fun i j hi hj hij => absurd (show i = j by omega) hij) hA
  obtain ⟨q1, q2, q3, q4⟩ := h1.1 0 (by decide)
  refine ⟨adK 0, adV 0, fun j => tb_.getD j 0, fun _ => rfl, vk_R.of (hts _ (List.mem_of_getElem? (i := 143) (by decide +kernel))) (h2 0 (by decide)), va_Zof (hts _ (List.mem_of_getElem? (i := 153) (by decide +kernel))) (hts _ (List.mem_of_getElem? (i := 107) (by decide +kernel))) (va_eqt (hs _ (by decide +kernel))) hA, va_Zqof (hts _ (List.mem_of_getElem? (i := 169) (by decide +kernel))) (hts _ (List.mem_of_getElem? (i := 109) (by decide +kernel))) (hs _ (by decide +kernel)) hA, q1, q2, q3, q4⟩
set_option maxRecDepth 100000 in
set_option maxHeartbeats 4000000 in
theorem w_P {b : Nat} {s : State} (hts : ∀ w ∈ lw_tbl, w.before #[Value.ref b] s = true) (hgv : GV.before #[Value.ref b] s = true) : ∃ sa sb : Nat, Ep_ sa sb (AN_ [] s.heap.size) s := by
  have hs := flat_of_before _ hgv
  have hA : ∀ a : Nat, a < s.heap.size → ¬ AN_ [] s.heap.size a := fun a h q => q.elim (fun q => absurd q List.not_mem_nil) (fun q => absurd h (Nat.not_lt.mpr q))
  have hx : (Cond.exactly (.string RX11 139) "java/lang/String").before #[Value.ref b] s = true := hs _ (by decide +kernel)
  obtain ⟨sa, c1, c2, k1, h1, -⟩ := Cond.exactly_spec hx
  have hy : (Cond.exactly (.string RX11 173) "java/lang/String").before #[Value.ref b] s = true := hs _ (by decide +kernel)
  obtain ⟨sb, d1, d2, j1, g1, -⟩ := Cond.exactly_spec hy
  exact ⟨sa, sb, ⟨vk_R.of (hts _ (List.mem_of_getElem? (i := 1312) (by decide +kernel))) h1, vk_R.of (hts _ (List.mem_of_getElem? (i := 1339) (by decide +kernel))) g1⟩, ⟨va_Nw.of rfl (hts _ (List.mem_of_getElem? (i := 1275) (by decide +kernel))), va_Nw.of rfl (hts _ (List.mem_of_getElem? (i := 1277) (by decide +kernel))), va_Nw.of rfl (hts _ (List.mem_of_getElem? (i := 1279) (by decide +kernel))), va_Nw.of rfl (hts _ (List.mem_of_getElem? (i := 1281) (by decide +kernel)))⟩, vx_Zqof (hts _ (List.mem_of_getElem? (i := 1300) (by decide +kernel))) (hts _ (List.mem_of_getElem? (i := 124) (by decide +kernel))) (hs _ (by decide +kernel)) hA, vx_Zqof (hts _ (List.mem_of_getElem? (i := 1302) (by decide +kernel))) (hts _ (List.mem_of_getElem? (i := 124) (by decide +kernel))) (hs _ (by decide +kernel)) hA⟩
def tb312_ : List Int32 := [32, 108, 101, 97, 118, 101, 115, 32, 110, 111, 116, 104, 105, 110, 103]
def te312_ (j : Nat) : Cond := Cond.eq (.elem (.field (.string RX11 312) "java/lang/String" "value" "[B") (.int (Int32.ofNat j))) (.int (tb312_.getD j 0))
set_option maxRecDepth 100000 in
theorem w_m312 : ∀ j, j < 15 → te312_ j ∈ flatC GV := by decide +kernel
set_option maxRecDepth 100000 in
set_option maxHeartbeats 4000000 in
theorem w_S312 {b : Nat} {s : State} (hts : ∀ w ∈ lw_tbl, w.before #[Value.ref b] s = true) (hgv : GV.before #[Value.ref b] s = true) : ∃ (k v : Nat) (f : Nat → Int32), vk_R RX11 312 " leaves nothing" k s ∧ Es_ k v 15 f (AN_ [] s.heap.size) s := by
  have hs := flat_of_before _ hgv
  have hA : ∀ a : Nat, a < s.heap.size → ¬ AN_ [] s.heap.size a := fun a h q => q.elim (fun q => absurd q List.not_mem_nil) (fun q => absurd h (Nat.not_lt.mpr q))
  obtain ⟨adK, adV, h1, h2⟩ := vk_Sof (args := #[Value.ref b]) (s := s) (N := 1) (tm := fun _ => .string RX11 312) (len := [15]) (byt := [tb312_]) (A := AN_ [] s.heap.size) (fun i hi => by
    have : i = 0 := by omega
    subst this
    decide) (fun i _ => hs _ (by decide +kernel)) (fun i _ => hs _ (by decide +kernel)) (fun i _ => hs _ (by decide +kernel)) (fun i hi => by
    have : i = 0 := by omega
    subst this
    exact hs _ (by decide +kernel)) (fun i hi j hj => by
    have : i = 0 := by omega
    subst this
    exact hs _ (w_m312 j hj)) (fun i j hi hj hij => absurd (show i = j by omega) hij) hA
  obtain ⟨q1, q2, q3, q4⟩ := h1.1 0 (by decide)
  refine ⟨adK 0, adV 0, fun j => tb312_.getD j 0, vk_R.of (hts _ (List.mem_of_getElem? (i := 1087) (by decide +kernel))) (h2 0 (by decide)), va_Zof (hts _ (List.mem_of_getElem? (i := 153) (by decide +kernel))) (hts _ (List.mem_of_getElem? (i := 107) (by decide +kernel))) (va_eqt (hs _ (by decide +kernel))) hA, va_Zqof (hts _ (List.mem_of_getElem? (i := 169) (by decide +kernel))) (hts _ (List.mem_of_getElem? (i := 109) (by decide +kernel))) (hs _ (by decide +kernel)) hA, q1, q2, q3, q4⟩
def tb317_ : List Int32 := [32, 108, 101, 97, 118, 101, 115, 32]
def te317_ (j : Nat) : Cond := Cond.eq (.elem (.field (.string RX11 317) "java/lang/String" "value" "[B") (.int (Int32.ofNat j))) (.int (tb317_.getD j 0))
set_option maxRecDepth 100000 in
theorem w_m317 : ∀ j, j < 8 → te317_ j ∈ flatC GV := by decide +kernel
set_option maxRecDepth 100000 in
set_option maxHeartbeats 4000000 in
theorem w_S317 {b : Nat} {s : State} (hts : ∀ w ∈ lw_tbl, w.before #[Value.ref b] s = true) (hgv : GV.before #[Value.ref b] s = true) : ∃ (k v : Nat) (f : Nat → Int32), vk_R RX11 317 " leaves " k s ∧ Es_ k v 8 f (AN_ [] s.heap.size) s := by
  have hs := flat_of_before _ hgv
  have hA : ∀ a : Nat, a < s.heap.size → ¬ AN_ [] s.heap.size a := fun a h q => q.elim (fun q => absurd q List.not_mem_nil) (fun q => absurd h (Nat.not_lt.mpr q))
  obtain ⟨adK, adV, h1, h2⟩ := vk_Sof (args := #[Value.ref b]) (s := s) (N := 1) (tm := fun _ => .string RX11 317) (len := [8]) (byt := [tb317_]) (A := AN_ [] s.heap.size) (fun i hi => by
    have : i = 0 := by omega
    subst this
    decide) (fun i _ => hs _ (by decide +kernel)) (fun i _ => hs _ (by decide +kernel)) (fun i _ => hs _ (by decide +kernel)) (fun i hi => by
    have : i = 0 := by omega
    subst this
    exact hs _ (by decide +kernel)) (fun i hi j hj => by
    have : i = 0 := by omega
    subst this
    exact hs _ (w_m317 j hj)) (fun i j hi hj hij => absurd (show i = j by omega) hij) hA
  obtain ⟨q1, q2, q3, q4⟩ := h1.1 0 (by decide)
  refine ⟨adK 0, adV 0, fun j => tb317_.getD j 0, vk_R.of (hts _ (List.mem_of_getElem? (i := 1094) (by decide +kernel))) (h2 0 (by decide)), va_Zof (hts _ (List.mem_of_getElem? (i := 153) (by decide +kernel))) (hts _ (List.mem_of_getElem? (i := 107) (by decide +kernel))) (va_eqt (hs _ (by decide +kernel))) hA, va_Zqof (hts _ (List.mem_of_getElem? (i := 169) (by decide +kernel))) (hts _ (List.mem_of_getElem? (i := 109) (by decide +kernel))) (hs _ (by decide +kernel)) hA, q1, q2, q3, q4⟩
def tb322_ : List Int32 := [32, 116, 111, 32, 110, 111, 98, 111, 100, 121]
def te322_ (j : Nat) : Cond := Cond.eq (.elem (.field (.string RX11 322) "java/lang/String" "value" "[B") (.int (Int32.ofNat j))) (.int (tb322_.getD j 0))
set_option maxRecDepth 100000 in
theorem w_m322 : ∀ j, j < 10 → te322_ j ∈ flatC GV := by decide +kernel
set_option maxRecDepth 100000 in
set_option maxHeartbeats 4000000 in
theorem w_S322 {b : Nat} {s : State} (hts : ∀ w ∈ lw_tbl, w.before #[Value.ref b] s = true) (hgv : GV.before #[Value.ref b] s = true) : ∃ (k v : Nat) (f : Nat → Int32), vk_R RX11 322 " to nobody" k s ∧ Es_ k v 10 f (AN_ [] s.heap.size) s := by
  have hs := flat_of_before _ hgv
  have hA : ∀ a : Nat, a < s.heap.size → ¬ AN_ [] s.heap.size a := fun a h q => q.elim (fun q => absurd q List.not_mem_nil) (fun q => absurd h (Nat.not_lt.mpr q))
  obtain ⟨adK, adV, h1, h2⟩ := vk_Sof (args := #[Value.ref b]) (s := s) (N := 1) (tm := fun _ => .string RX11 322) (len := [10]) (byt := [tb322_]) (A := AN_ [] s.heap.size) (fun i hi => by
    have : i = 0 := by omega
    subst this
    decide) (fun i _ => hs _ (by decide +kernel)) (fun i _ => hs _ (by decide +kernel)) (fun i _ => hs _ (by decide +kernel)) (fun i hi => by
    have : i = 0 := by omega
    subst this
    exact hs _ (by decide +kernel)) (fun i hi j hj => by
    have : i = 0 := by omega
    subst this
    exact hs _ (w_m322 j hj)) (fun i j hi hj hij => absurd (show i = j by omega) hij) hA
  obtain ⟨q1, q2, q3, q4⟩ := h1.1 0 (by decide)
  refine ⟨adK 0, adV 0, fun j => tb322_.getD j 0, vk_R.of (hts _ (List.mem_of_getElem? (i := 1099) (by decide +kernel))) (h2 0 (by decide)), va_Zof (hts _ (List.mem_of_getElem? (i := 153) (by decide +kernel))) (hts _ (List.mem_of_getElem? (i := 107) (by decide +kernel))) (va_eqt (hs _ (by decide +kernel))) hA, va_Zqof (hts _ (List.mem_of_getElem? (i := 169) (by decide +kernel))) (hts _ (List.mem_of_getElem? (i := 109) (by decide +kernel))) (hs _ (by decide +kernel)) hA, q1, q2, q3, q4⟩
def tb324_ : List Int32 := [32, 116, 111, 32]
def te324_ (j : Nat) : Cond := Cond.eq (.elem (.field (.string RX11 324) "java/lang/String" "value" "[B") (.int (Int32.ofNat j))) (.int (tb324_.getD j 0))
set_option maxRecDepth 100000 in
theorem w_m324 : ∀ j, j < 4 → te324_ j ∈ flatC GV := by decide +kernel
set_option maxRecDepth 100000 in
set_option maxHeartbeats 4000000 in
theorem w_S324 {b : Nat} {s : State} (hts : ∀ w ∈ lw_tbl, w.before #[Value.ref b] s = true) (hgv : GV.before #[Value.ref b] s = true) : ∃ (k v : Nat) (f : Nat → Int32), vk_R RX11 324 " to " k s ∧ Es_ k v 4 f (AN_ [] s.heap.size) s := by
  have hs := flat_of_before _ hgv
  have hA : ∀ a : Nat, a < s.heap.size → ¬ AN_ [] s.heap.size a := fun a h q => q.elim (fun q => absurd q List.not_mem_nil) (fun q => absurd h (Nat.not_lt.mpr q))
  obtain ⟨adK, adV, h1, h2⟩ := vk_Sof (args := #[Value.ref b]) (s := s) (N := 1) (tm := fun _ => .string RX11 324) (len := [4]) (byt := [tb324_]) (A := AN_ [] s.heap.size) (fun i hi => by
    have : i = 0 := by omega
    subst this
    decide) (fun i _ => hs _ (by decide +kernel)) (fun i _ => hs _ (by decide +kernel)) (fun i _ => hs _ (by decide +kernel)) (fun i hi => by
    have : i = 0 := by omega
    subst this
    exact hs _ (by decide +kernel)) (fun i hi j hj => by
    have : i = 0 := by omega
    subst this
    exact hs _ (w_m324 j hj)) (fun i j hi hj hij => absurd (show i = j by omega) hij) hA
  obtain ⟨q1, q2, q3, q4⟩ := h1.1 0 (by decide)
  refine ⟨adK 0, adV 0, fun j => tb324_.getD j 0, vk_R.of (hts _ (List.mem_of_getElem? (i := 1100) (by decide +kernel))) (h2 0 (by decide)), va_Zof (hts _ (List.mem_of_getElem? (i := 153) (by decide +kernel))) (hts _ (List.mem_of_getElem? (i := 107) (by decide +kernel))) (va_eqt (hs _ (by decide +kernel))) hA, va_Zqof (hts _ (List.mem_of_getElem? (i := 169) (by decide +kernel))) (hts _ (List.mem_of_getElem? (i := 109) (by decide +kernel))) (hs _ (by decide +kernel)) hA, q1, q2, q3, q4⟩
theorem w_W {b : Nat} {s : State} (hts : ∀ w ∈ lw_tbl, w.before #[Value.ref b] s = true) (hgv : GV.before #[Value.ref b] s = true) : ∃ (k0 v0 k1 v1 k2 v2 k3 v3 : Nat) (f0 f1 f2 f3 : Nat → Int32), Ew_ k0 v0 k1 v1 k2 v2 k3 v3 f0 f1 f2 f3 (AN_ [] s.heap.size) s := by
  obtain ⟨k0, v0, f0, h0⟩ := w_S312 hts hgv
  obtain ⟨k1, v1, f1, h1⟩ := w_S317 hts hgv
  obtain ⟨k2, v2, f2, h2⟩ := w_S322 hts hgv
  obtain ⟨k3, v3, f3, h3⟩ := w_S324 hts hgv
  exact ⟨k0, v0, k1, v1, k2, v2, k3, v3, f0, f1, f2, f3, h0, h1, h2, h3⟩
