theorem dL_law_0 : decode cL_law 0 = .ok (.new 8, 3) := by decide +kernel
theorem dL_law_3 : decode cL_law 3 = .ok (.dup, 1) := by decide +kernel
theorem dL_law_4 : decode cL_law 4 = .ok (.invokespecial 15, 3) := by decide +kernel
theorem dL_law_7 : decode cL_law 7 = .ok (.astore_n 1, 1) := by decide +kernel
theorem dL_law_8 : decode cL_law 8 = .ok (.new 16, 3) := by decide +kernel
theorem dL_law_11 : decode cL_law 11 = .ok (.dup, 1) := by decide +kernel
theorem dL_law_12 : decode cL_law 12 = .ok (.invokespecial 18, 3) := by decide +kernel
theorem dL_law_15 : decode cL_law 15 = .ok (.astore_n 2, 1) := by decide +kernel
theorem dL_law_16 : decode cL_law 16 = .ok (.iconst 1, 1) := by decide +kernel
theorem dL_law_17 : decode cL_law 17 = .ok (.newarray .long, 2) := by decide +kernel
theorem dL_law_19 : decode cL_law 19 = .ok (.astore_n 3, 1) := by decide +kernel
theorem dL_law_20 : decode cL_law 20 = .ok (.iconst 0, 1) := by decide +kernel
theorem dL_law_21 : decode cL_law 21 = .ok (.istore 4, 2) := by decide +kernel
def mg_ {α : Type} (Lx : List Nat) (f g : Nat → α) (a : Nat) : α := if a ∈ Lx then f a else g a
theorem mg_x {α : Type} {Lx : List Nat} {f g : Nat → α} {a : Nat} (h : a ∈ Lx) : mg_ Lx f g a = f a := if_pos h
theorem mg_m {α : Type} {Lx : List Nat} {f g : Nat → α} {a : Nat} (h : a ∉ Lx) : mg_ Lx f g a = g a := if_neg h
set_option maxRecDepth 100000 in
set_option maxHeartbeats 4000000 in
/-- YOUR PART: from the entry, for every script of at most 6 ints, the law comes to its end with true ('hflags': the launch's flags, for a law that throws: no stack traces) -/
theorem whole_start {p : Program} {e : Env} {s : State} {m : MethodId} {below : List Frame} {meth : Method} {c : Code} (l : Launch) (hflags : l.flags = flags0) {b L : Nat} {xs : Nat → Int32} (hL : L ≤ 6) (C0 : lw_At p s m meth c b L xs) : W p l e room_1 s m #[Value.ref b] below meth c s.heap [] 0 0 (lw_Z below #[Value.ref b] s) (entryFrame m ([Value.ref b] : List Value).toArray 7) := by
  obtain ⟨hx, hb, hr, hml, hown, hts, hX, hbl, hlk, hgv⟩ := C0
  have htg : ∀ w ∈ GT, w.before #[Value.ref b] s = true := fun w hw => hts w (gt_tbl hw)
  have C : CallFix p m c cL_law 7 s #[Value.ref b] GT RL := ⟨hx, hb, hml, hown, htg⟩
  have hst : l.stackTraces = false := by unfold Launch.stackTraces; rw [hflags]; decide +kernel
  have hNn := w_N hts
  obtain ⟨D, cy, hK⟩ := w_K htg hNn.2
  obtain ⟨k, v, f, hvR, hvE⟩ := w_E hts hgv
  obtain ⟨sa, hE⟩ := w_P hts hgv
  have hbA : ¬ AN_ [] s.heap.size b := fun h => h.elim (fun h => absurd h List.not_mem_nil) (fun h => absurd hbl (Nat.not_lt.mpr h))
  have hA : ∀ q, s.heap.size ≤ q → AN_ [] s.heap.size q := fun q h => Or.inr h
  have K0 : Wc_ D cy (AN_ [] s.heap.size) [] s := ⟨List.nodup_nil, fun q h => absurd h List.not_mem_nil, hK⟩
  have G1 : WG p l e room_1 s m #[Value.ref b] below meth c 7 0 0 (lw_Z below #[Value.ref b] s) D cy (AN_ [] s.heap.size) s.heap [] (fun _ => 0) (fun _ => 0) (fun _ _ => none) (fun _ _ => 0) (fun _ _ => 0) 0 [(0, .ref b)] [] := by
    refine a_new (ow := fun _ => (0, 0)) C K0 hA (0, 0) (by decide) rfl u_in11 tyX11 tyX11_ok cl_L_8 df_11 ⟨Nat.le_of_ble_eq_true rfl, Nat.le_of_ble_eq_true rfl⟩ dL_law_0 (fun x L1 κ1 ln1 R1 I1 J1 ow1 hq1 K1 => ?_)
    refine g_dup C dL_law_3 rfl ?_
    refine a_init C K1 hA (i_11 (k := k) (v := v) (f := f) (ow := ow1) hq1.2.1 hq1.2.2.2.1 hq1.2.2.2.2.2.2.1) Et_blind (fun H locs U hS hU hW => ⟨hNn.warm hW, hvR.warm hW, hvE.go hW.alike (fun a h1 h2 => by rw [hU]; exact hS.2.1 a h1 h2) (fun q hq => hq.elim (K1.2.1 q) (fun h => hA q (Nat.le_trans hS.1 h)))⟩) iw_L_15 rfl ⟨rfl, rfl⟩ ⟨Nat.le_of_ble_eq_true rfl, Nat.le_of_ble_eq_true rfl⟩ (Nat.le_of_ble_eq_true rfl) ⟨Nat.le_of_ble_eq_true rfl, Nat.le_of_ble_eq_true rfl⟩ dL_law_4 (st := [.ref x]) rfl (fun Lx κx lnx Rx Ix Jx hp2 K2 => ?_)
    obtain ⟨owx, -, gx, hxL, hxk, -⟩ := nq_pi hq1 hp2
    have Gx : ∀ a ∈ Lx, Gd Lx κx lnx Rx owx Ix a := fun a ha => gx a ha List.not_mem_nil
    refine g_astore_n C dL_law_7 rfl (by decide) (lo2 := [(1, .ref x), (0, .ref b)]) rfl ?_
    intro H1 locs1 ls1 hP1 hS1 hl1
    refine va_forget (fun q hq => (hS1.2.2 q hq).elim (fun h => absurd h List.not_mem_nil) id) ?_
    have hA1 : ∀ q, H1.size ≤ q → AN_ [] H1.size q := fun q h => Or.inr h
    have K3 : Wc_ D cy (AN_ [] H1.size) [] s := ⟨List.nodup_nil, fun q h => absurd h List.not_mem_nil, hK⟩
    have G2 : WG p l e room_1 s m #[Value.ref b] below meth c 7 (0 + 1 + 224) (0 + 15 + 6778) (lw_Z below #[Value.ref b] s) D cy (AN_ [] H1.size) H1 [] (fun _ => 0) (fun _ => 0) (fun _ _ => none) (fun _ _ => 0) (fun _ _ => 0) 8 [(1, .ref x), (0, .ref b)] [] := by
      refine a_new (ow := fun _ => (0, 0)) C K3 hA1 (0, 0) (by decide) rfl u_in12 tyX12 tyX12_ok cl_L_16 df_12 ⟨Nat.le_of_ble_eq_true rfl, Nat.le_of_ble_eq_true rfl⟩ dL_law_8 (fun mm L4 κ4 ln4 R4 I4 J4 ow4 hq4 K4 => ?_)
      refine g_dup C dL_law_11 rfl ?_
      refine a_init C K4 hA1 (i_12 (ow := ow4) hq4.2.1 hq4.2.2.2.1 hq4.2.2.2.2.2.2.1) En_blind (fun _ _ U _ _ hW => hNn.warm hW) iw_L_18 rfl ⟨rfl, rfl⟩ ⟨Nat.le_of_ble_eq_true rfl, Nat.le_of_ble_eq_true rfl⟩ (Nat.le_of_ble_eq_true rfl) ⟨Nat.le_of_ble_eq_true rfl, Nat.le_of_ble_eq_true rfl⟩ dL_law_12 (st := [.ref mm]) rfl (fun L5 κ5 ln5 R5 I5 J5 hp5 K5 => ?_)
      obtain ⟨ow5, -, g5, hm5, hk5, -⟩ := nq_pi hq4 hp5
      refine g_astore_n C dL_law_15 rfl (by decide) (lo2 := [(2, .ref mm), (1, .ref x), (0, .ref b)]) rfl ?_
      refine g_iconst C (v := 1) dL_law_16 (by decide) ?_
      refine a_newJ (ow := ow5) C K5 hA1 (0, 0) 1 (by decide) (by decide) (by decide) ar_long ⟨Nat.le_of_ble_eq_true rfl, Nat.le_of_ble_eq_true rfl⟩ dL_law_17 (fun oo Lm κm lnm Rm Im Jm owm hq6 K6 => ?_)
      have hE6 := hq6.2.2.2.2.2.2.2.2
      have Gm : ∀ a ∈ Lm, Gd Lm κm lnm Rm owm Im a := fun a ha => by
        by_cases h : a ∈ L5
        · exact (g5 a h List.not_mem_nil).ex h hE6
        · exact hq6.gd ⟨by decide, by decide⟩ a ha h
      have hmL : mm ∈ Lm := (hE6 mm hm5).1
      have hmk : κm mm = 12 := (hE6 mm hm5).2.1.trans hk5
      refine g_astore_n C dL_law_19 rfl (by decide) (lo2 := [(3, .ref oo), (2, .ref mm), (1, .ref x), (0, .ref b)]) rfl ?_
      refine g_iconst C (v := 0) dL_law_20 (by decide) ?_
      refine g_istore C dL_law_21 (by decide) (lo2 := [(4, .int 0), (3, .ref oo), (2, .ref mm), (1, .ref x), (0, .ref b)]) rfl ?_
      intro H2 locs2 ls2 hP2 hS2 hl2
      have hz : ∀ q, AN_ [] H1.size q → H1.size ≤ q := fun q h => h.elim (fun h => absurd h List.not_mem_nil) id
      have hz0 : ∀ q, AN_ [] s.heap.size q → s.heap.size ≤ q := fun q h => h.elim (fun h => absurd h List.not_mem_nil) id
      refine va_forget (fun q hq => Nat.le_trans hS1.1 (hz _ (hS2.2.2 q hq))) ?_
      have hP1' := pl_iff.mp hP1
      have hP2' := pl_iff.mp hP2
      have hdj : ∀ a ∈ Lm, a ∉ Lx := fun a ha hxa => absurd (hP1' a hxa).lt (Nat.not_lt.mpr (hz a (K6.2.1 a ha)))
      have Ex1 : Ex Lx κx lnx Rx owx Ix Lx (mg_ Lx κx κm) (mg_ Lx lnx lnm) (mg_ Lx Rx Rm) (mg_ Lx owx owm) (mg_ Lx Ix Im) := fun a ha => ⟨ha, mg_x ha, mg_x ha, mg_x ha, fun j => by rw [mg_x ha], fun j => by rw [mg_x ha]⟩
      have Em1 : Ex Lm κm lnm Rm owm Im Lm (mg_ Lx κx κm) (mg_ Lx lnx lnm) (mg_ Lx Rx Rm) (mg_ Lx owx owm) (mg_ Lx Ix Im) := fun a ha => ⟨ha, mg_m (hdj a ha), mg_m (hdj a ha), mg_m (hdj a ha), fun j => by rw [mg_m (hdj a ha)], fun j => by rw [mg_m (hdj a ha)]⟩
      have hLp : Lq_ (Lx ++ Lm) Lx Lm (mg_ Lx κx κm) (mg_ Lx lnx lnm) (mg_ Lx Rx Rm) (mg_ Lx owx owm) (mg_ Lx Ix Im) x mm := ⟨fun a h => List.mem_append_left _ h, K2.1, fun a h => List.mem_append_right _ h, K6.1, hdj, fun a ha => (Gx a ha).ex ha Ex1, hxL, (mg_x hxL).trans hxk, fun a ha => (Gm a ha).ex ha Em1, hmL, (mg_m (hdj mm hmL)).trans hmk⟩
      have hLc : Lc_ p s m c D cy (Lx ++ Lm) b L xs := ⟨C, ⟨List.nodup_append.mpr ⟨K2.1, K6.1, fun a ha q hq e => hdj q hq (e ▸ ha)⟩, fun q hq => (List.mem_append.mp hq).elim (K2.2.1 q) (fun h => hA q (Nat.le_trans hS1.1 (hz q (K6.2.1 q h)))), hK⟩, hX, hbl, hbA⟩
      have hS3 : va_S (AN_ [] s.heap.size) s.heap H2 [] := ⟨Nat.le_trans hS1.1 hS2.1, fun q h1 h2 => (hS2.2.1 q (Nat.lt_of_lt_of_le h1 hS1.1) (fun h => absurd (Nat.lt_of_lt_of_le h1 hS1.1) (Nat.not_lt.mpr (hz q h)))).trans (hS1.2.1 q h1 h2), fun _ h => absurd h List.not_mem_nil⟩
      have hP3 : va_P D vwCl (va_pl (Lx ++ Lm) (cel_ cy (mg_ Lx κx κm) (mg_ Lx lnx lnm) (mg_ Lx Rx Rm) (mg_ Lx Ix Im) (mg_ Lx Jx Jm))) H2 := pl_iff.mpr (fun a ha => by
        by_cases hxa : a ∈ Lx
        · rw [cel_cong (κ' := κx) (ln' := lnx) (R' := Rx) (I' := Ix) (J' := Jx) (mg_x hxa) (mg_x hxa) (fun j => by rw [mg_x hxa]) (fun j => by rw [mg_x hxa]) (fun j => by rw [mg_x hxa])]
          exact (hP1' a hxa).kept (hS2.2.1 a (hP1' a hxa).lt (fun h => absurd (hP1' a hxa).lt (Nat.not_lt.mpr (hz a h))))
        · rw [cel_cong (κ' := κm) (ln' := lnm) (R' := Rm) (I' := Im) (J' := Jm) (mg_m hxa) (mg_m hxa) (fun j => by rw [mg_m hxa]) (fun j => by rw [mg_m hxa]) (fun j => by rw [mg_m hxa])]
          exact hP2' a ((List.mem_append.mp ha).resolve_left hxa))
      exact lw_loop hLc hL hLp hst hE hr hlk H2 [] ls2 hP3 hS3 hl2
    exact G2 H1 [] ls1 (pl_iff.mpr (fun a h => absurd h List.not_mem_nil)) va_S.rf hl1
  rw [lg_entry_eq]
  exact G1 s.heap [] _ (pl_iff.mpr (fun a h => absurd h List.not_mem_nil)) va_S.rf (lv_sub (lv_entry ([Value.ref b] : List Value) (Nat.le_of_ble_eq_true rfl)) [0] rfl)
