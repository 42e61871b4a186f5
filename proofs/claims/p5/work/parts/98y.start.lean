theorem dL_law_0 : decode cL_law 0 = .ok (.new 8, 3) := by decide +kernel
theorem dL_law_3 : decode cL_law 3 = .ok (.dup, 1) := by decide +kernel
theorem dL_law_4 : decode cL_law 4 = .ok (.invokespecial 15, 3) := by decide +kernel
theorem dL_law_7 : decode cL_law 7 = .ok (.astore_n 1, 1) := by decide +kernel
theorem dL_law_8 : decode cL_law 8 = .ok (.new 16, 3) := by decide +kernel
theorem dL_law_11 : decode cL_law 11 = .ok (.dup, 1) := by decide +kernel
theorem dL_law_12 : decode cL_law 12 = .ok (.invokespecial 18, 3) := by decide +kernel
theorem dL_law_15 : decode cL_law 15 = .ok (.astore_n 2, 1) := by decide +kernel
theorem dL_law_16 : decode cL_law 16 = .ok (.iconst 1, 1) := by decide +kernel
theorem dL_law_17 : decode cL_law 17 = .ok (.newarray .long, 2) := by decide +kernel
theorem dL_law_19 : decode cL_law 19 = .ok (.astore_n 3, 1) := by decide +kernel
theorem dL_law_20 : decode cL_law 20 = .ok (.iconst 0, 1) := by decide +kernel
theorem dL_law_21 : decode cL_law 21 = .ok (.istore 4, 2) := by decide +kernel
def mg_ {α : Type} (Lx : List Nat) (f g : Nat → α) (a : Nat) : α := if a ∈ Lx then f a else g a
theorem mg_x {α : Type} {Lx : List Nat} {f g : Nat → α} {a : Nat} (h : a ∈ Lx) : mg_ Lx f g a = f a := if_pos h
theorem mg_m {α : Type} {Lx : List Nat} {f g : Nat → α} {a : Nat} (h : a ∉ Lx) : mg_ Lx f g a = g a := if_neg h
theorem shp_up {L L2 : List Nat} {κ ln : Nat → Nat} {R : Nat → Nat → Option Nat} {ow : Nat → Nat × Nat} {a : Nat} (h : Shp L κ ln R ow a) (hs : ∀ b ∈ L, b ∈ L2) : Shp L2 κ ln R ow a := ⟨fun k q hq h9 => by
  obtain ⟨b, h1, h2, h3⟩ := h.1 k q hq h9
  exact ⟨b, h1, hs b h2, h3⟩, fun q i hi => by
  obtain ⟨b, h1, h2, h3⟩ := h.2.1 q i hi
  exact ⟨b, h1, hs b h2, h3⟩, fun q i hi => by
  obtain ⟨b, h1, h2, h3⟩ := h.2.2 q i hi
  exact ⟨b, h1, hs b h2, h3⟩⟩
set_option maxRecDepth 100000 in
set_option maxHeartbeats 4000000 in
/-- YOUR PART: from the entry, for every script of at most 3072 ints, the law comes to its end with true ('hflags': the launch's flags, for a law that throws: no stack traces) -/
theorem whole_start {p : Program} {e : Env} {s : State} {m : MethodId} {below : List Frame} {meth : Method} {c : Code} (l : Launch) (hflags : l.flags = flags0) {b L : Nat} {xs : Nat → Int32} (hL : L ≤ 3072) (C0 : lw_At p s m meth c b L xs) : W p l e room_1 s m #[Value.ref b] below meth c s.heap [] 0 0 (lw_Z below #[Value.ref b] s) (entryFrame m ([Value.ref b] : List Value).toArray 7) := by
  obtain ⟨hx, hb, hr, hml, hown, hts, hX, hbl, hlk, hgv⟩ := C0
  have htg : ∀ w ∈ GT, w.before #[Value.ref b] s = true := fun w hw => hts w (gt_tbl hw)
  have C : CallFix p m c cL_law 7 s #[Value.ref b] GT RL := ⟨hx, hb, hml, hown, htg⟩
  have hst : l.stackTraces = false := by unfold Launch.stackTraces; rw [hflags]; decide +kernel
  have hNn := w_N hts
  obtain ⟨D, cy, hK⟩ := w_K htg hNn.2
  obtain ⟨k, v, f, hf, hvR, hvE⟩ := w_E hts hgv
  obtain ⟨sa, sb, hE⟩ := w_P hts hgv
  obtain ⟨k0, v0, k1, v1, k2, v2, k3, v3, f0, f1, f2, f3, hE2⟩ := w_W hts hgv
  have hbA : ¬ AN_ [] s.heap.size b := fun h => h.elim (fun h => absurd h List.not_mem_nil) (fun h => absurd hbl (Nat.not_lt.mpr h))
  have hA : ∀ q, s.heap.size ≤ q → AN_ [] s.heap.size q := fun q h => Or.inr h
  have K0 : Wc_ D cy (AN_ [] s.heap.size) [] s := ⟨List.nodup_nil, fun q h => absurd h List.not_mem_nil, hK⟩
  have G1 : WG p l e room_1 s m #[Value.ref b] below meth c 7 0 0 (lw_Z below #[Value.ref b] s) D cy (AN_ [] s.heap.size) s.heap [] (fun _ => 0) (fun _ => 0) (fun _ _ => none) (fun _ _ => 0) (fun _ _ => 0) 0 [(0, .ref b)] [] := by
    refine a_new (ow := fun _ => (0, 0)) C K0 hA (0, 0) (by decide) rfl u_in11 tyX11 tyX11_ok cl_L_8 df_11 ⟨Nat.le_of_ble_eq_true rfl, Nat.le_of_ble_eq_true rfl⟩ dL_law_0 (fun x L1 κ1 ln1 R1 I1 J1 ow1 hq1 K1 => ?_)
    refine g_dup C dL_law_3 rfl ?_
    refine a_init C K1 hA (i_11 (k := k) (v := v) (f := f) (ow := ow1) hq1.2.1 hq1.2.2.2.1 hq1.2.2.2.2.2.2.1 hf) Et_blind (fun H locs U hS hU hW => ⟨hNn.warm hW, hvR.warm hW, hvE.go hW.alike (fun a h1 h2 => by rw [hU]; exact hS.2.1 a h1 h2) (fun q hq => hq.elim (K1.2.1 q) (fun h => hA q (Nat.le_trans hS.1 h)))⟩) iw_L_15 rfl ⟨rfl, rfl⟩ ⟨Nat.le_of_ble_eq_true rfl, Nat.le_of_ble_eq_true rfl⟩ (Nat.le_of_ble_eq_true rfl) ⟨Nat.le_of_ble_eq_true rfl, Nat.le_of_ble_eq_true rfl⟩ dL_law_4 (st := [.ref x]) rfl (fun Lx κx lnx Rx Ix Jx hp2 K2 => ?_)
    obtain ⟨owx, -, gx, hxL, hxk, -⟩ := nq_pi hq1 hp2.1
    have Gx : ∀ a ∈ Lx, Gd Lx κx lnx Rx owx Ix Jx a := fun a ha => gx a ha List.not_mem_nil
    refine g_astore_n C dL_law_7 rfl (by decide) (lo2 := [(1, .ref x), (0, .ref b)]) rfl ?_
    intro H1 locs1 ls1 hP1 hS1 hl1
    refine va_forget (fun q hq => (hS1.2.2 q hq).elim (fun h => absurd h List.not_mem_nil) id) ?_
    have hA1 : ∀ q, H1.size ≤ q → AN_ [] H1.size q := fun q h => Or.inr h
    have K3 : Wc_ D cy (AN_ [] H1.size) [] s := ⟨List.nodup_nil, fun q h => absurd h List.not_mem_nil, hK⟩
    have G2 : WG p l e room_1 s m #[Value.ref b] below meth c 7 (0 + 1 + 224) (0 + 15 + 6778) (lw_Z below #[Value.ref b] s) D cy (AN_ [] H1.size) H1 [] (fun _ => 0) (fun _ => 0) (fun _ _ => none) (fun _ _ => 0) (fun _ _ => 0) 8 [(1, .ref x), (0, .ref b)] [] := by
      refine a_new (ow := fun _ => (0, 0)) C K3 hA1 (0, 0) (by decide) rfl u_in12 tyX12 tyX12_ok cl_L_16 df_12 ⟨Nat.le_of_ble_eq_true rfl, Nat.le_of_ble_eq_true rfl⟩ dL_law_8 (fun mm L4 κ4 ln4 R4 I4 J4 ow4 hq4 K4 => ?_)
      refine g_dup C dL_law_11 rfl ?_
      refine a_init C K4 hA1 (i_12 (ow := ow4) hq4.2.1 hq4.2.2.2.1 hq4.2.2.2.2.2.2.1) En_blind (fun _ _ U _ _ hW => hNn.warm hW) iw_L_18 rfl ⟨rfl, rfl⟩ ⟨Nat.le_of_ble_eq_true rfl, Nat.le_of_ble_eq_true rfl⟩ (Nat.le_of_ble_eq_true rfl) ⟨Nat.le_of_ble_eq_true rfl, Nat.le_of_ble_eq_true rfl⟩ dL_law_12 (st := [.ref mm]) rfl (fun L5 κ5 ln5 R5 I5 J5 hp5 K5 => ?_)
      obtain ⟨ow5, -, g5, hm5, hk5, -⟩ := nq_pi hq4 hp5
      refine g_astore_n C dL_law_15 rfl (by decide) (lo2 := [(2, .ref mm), (1, .ref x), (0, .ref b)]) rfl ?_
      refine g_iconst C (v := 1) dL_law_16 (by decide) ?_
      refine a_newJ (ow := ow5) C K5 hA1 (0, 0) 1 (by decide) (by decide) (by decide) ar_long ⟨Nat.le_of_ble_eq_true rfl, Nat.le_of_ble_eq_true rfl⟩ dL_law_17 (fun oo Lm κm lnm Rm Im Jm owm hq6 K6 => ?_)
      have hE6 := hq6.2.2.2.2.2.2.2.2
      have Gm : ∀ a ∈ Lm, Gd Lm κm lnm Rm owm Im Jm a := fun a ha => by
        by_cases h : a ∈ L5
        · exact (g5 a h List.not_mem_nil).ex h hE6
        · exact hq6.gd ⟨by decide, by decide⟩ a ha h
      have hmL : mm ∈ Lm := (hE6 mm hm5).1
      have hmk : κm mm = 12 := (hE6 mm hm5).2.1.trans hk5
      refine g_astore_n C dL_law_19 rfl (by decide) (lo2 := [(3, .ref oo), (2, .ref mm), (1, .ref x), (0, .ref b)]) rfl ?_
      refine g_iconst C (v := 0) dL_law_20 (by decide) ?_
      refine g_istore C dL_law_21 (by decide) (lo2 := [(4, .int 0), (3, .ref oo), (2, .ref mm), (1, .ref x), (0, .ref b)]) rfl ?_
      intro H2 locs2 ls2 hP2 hS2 hl2
      have hz : ∀ q, AN_ [] H1.size q → H1.size ≤ q := fun q h => h.elim (fun h => absurd h List.not_mem_nil) id
      have hz0 : ∀ q, AN_ [] s.heap.size q → s.heap.size ≤ q := fun q h => h.elim (fun h => absurd h List.not_mem_nil) id
      refine va_forget (fun q hq => Nat.le_trans hS1.1 (hz _ (hS2.2.2 q hq))) ?_
      have hP1' := pl_iff.mp hP1
      have hP2' := pl_iff.mp hP2
      have hdj : ∀ a ∈ Lm, a ∉ Lx := fun a ha hxa => absurd (hP1' a hxa).lt (Nat.not_lt.mpr (hz a (K6.2.1 a ha)))
      have Ex1 : Ex Lx κx lnx Rx owx Ix Jx Lx (mg_ Lx κx κm) (mg_ Lx lnx lnm) (mg_ Lx Rx Rm) (mg_ Lx owx owm) (mg_ Lx Ix Im) (mg_ Lx Jx Jm) := fun a ha => ⟨ha, mg_x ha, mg_x ha, mg_x ha, fun j => by rw [mg_x ha], fun j => by rw [mg_x ha], fun j => by rw [mg_x ha]⟩
      have Em1 : Ex Lm κm lnm Rm owm Im Jm Lm (mg_ Lx κx κm) (mg_ Lx lnx lnm) (mg_ Lx Rx Rm) (mg_ Lx owx owm) (mg_ Lx Ix Im) (mg_ Lx Jx Jm) := fun a ha => ⟨ha, mg_m (hdj a ha), mg_m (hdj a ha), mg_m (hdj a ha), fun j => by rw [mg_m (hdj a ha)], fun j => by rw [mg_m (hdj a ha)], fun j => by rw [mg_m (hdj a ha)]⟩
      have Em5 : Ex L5 κ5 ln5 R5 ow5 I5 J5 L5 (mg_ Lx κx κm) (mg_ Lx lnx lnm) (mg_ Lx Rx Rm) (mg_ Lx owx owm) (mg_ Lx Ix Im) (mg_ Lx Jx Jm) := fun a ha => by
        obtain ⟨e1, e2, e3, e4, e5, e6, e7⟩ := hE6 a ha
        have hd := hdj a e1
        exact ⟨ha, (mg_m hd).trans e2, (mg_m hd).trans e3, (mg_m hd).trans e4, fun j => by rw [mg_m hd]; exact e5 j, fun j => by rw [mg_m hd]; exact e6 j, fun j => by rw [mg_m hd]; exact e7 j⟩
      have G5 : ∀ a ∈ L5, Gd L5 (mg_ Lx κx κm) (mg_ Lx lnx lnm) (mg_ Lx Rx Rm) (mg_ Lx owx owm) (mg_ Lx Ix Im) (mg_ Lx Jx Jm) a := fun a ha => (g5 a ha List.not_mem_nil).ex ha Em5
      have GX : ∀ a ∈ Lx, Gd Lx (mg_ Lx κx κm) (mg_ Lx lnx lnm) (mg_ Lx Rx Rm) (mg_ Lx owx owm) (mg_ Lx Ix Im) (mg_ Lx Jx Jm) a := fun a ha => (Gx a ha).ex ha Ex1
      have hmk' : mg_ Lx κx κm mm = 12 := (mg_m (hdj mm hmL)).trans hmk
      obtain ⟨LM, m1, m2, m3, m4, m5, m6⟩ := lm_0 K5.1 hm5 hmk' (G5 mm hm5).1
      have hoL : oo ∈ Lm := hq6.2.1
      have hoX : oo ∉ Lx := hdj oo hoL
      have hok : mg_ Lx κx κm oo = 15 := (mg_m hoX).trans hq6.2.2.2.1
      have hon : mg_ Lx lnx lnm oo = 1 := (mg_m hoX).trans hq6.2.2.2.2.1
      have hmX : ∀ a ∈ LM, a ∉ Lx ++ [oo] := fun a ha q => (List.mem_append.mp q).elim (fun h => hdj a (hE6 a (m1 a ha)).1 h) (fun h => hq6.1 (by rw [List.mem_singleton] at h; rw [← h]; exact m1 a ha))
      have WX : ∀ a ∈ Lx ++ [oo], Shp (Lx ++ [oo]) (mg_ Lx κx κm) (mg_ Lx lnx lnm) (mg_ Lx Rx Rm) (mg_ Lx owx owm) a := fun a ha => (List.mem_append.mp ha).elim (fun h => shp_up (GX a h).1 (fun b hb => List.mem_append_left _ hb)) (fun h => by
        rw [List.mem_singleton] at h
        subst h
        refine ⟨fun k q hq h9 => ?_, fun q => by omega, fun q => by omega⟩
        rw [hok] at hq
        exact absurd hq (by simp [rt_]))
      have FX : ∀ a ∈ Lx ++ [oo], ∀ j, mg_ Lx Ix Im a j = fv_ (mg_ Lx κx κm a) j := fun a ha j => (List.mem_append.mp ha).elim (fun h => (GX a h).2.1 j) (fun h => by
        rw [List.mem_singleton] at h
        subst h
        rw [mg_m hoX, hq6.2.2.2.2.2.2.1 j, hok]
        unfold fv_; rw [if_neg (by omega), if_neg (by omega), if_neg (by omega)])
      have FM : ∀ a ∈ LM, ∀ j, mg_ Lx Ix Im a j = fv_ (mg_ Lx κx κm a) j := fun a ha j => (G5 a (m1 a ha)).2.1 j
      have hxX : x ∈ Lx ++ [oo] := List.mem_append_left _ hxL
      have hxk' : mg_ Lx κx κm x = 11 := (mg_x hxL).trans hxk
      obtain ⟨tp, t1, t2, t3⟩ := shp_o (WX x hxX) hxk' 0 10 rfl (by decide)
      have hLp : Lv_ (Lx ++ Lm) (Lx ++ [oo]) LM (mg_ Lx κx κm) (mg_ Lx lnx lnm) (mg_ Lx Rx Rm) (mg_ Lx owx owm) x mm oo tp := ⟨fun a h => (List.mem_append.mp h).elim (fun h => List.mem_append_left _ h) (fun h => by rw [List.mem_singleton] at h; rw [h]; exact List.mem_append_right _ hoL), List.nodup_append.mpr ⟨K2.1, by simp, fun a ha q hq e => by rw [List.mem_singleton] at hq; rw [hq] at e; exact hoX (e ▸ ha)⟩, fun a h => List.mem_append_right _ (hE6 a (m1 a h)).1, m2, hmX, WX, m4, ⟨hxX, hxk'⟩, ⟨m3, hmk'⟩, ⟨List.mem_append_right _ (List.mem_singleton.mpr rfl), hok, hon⟩, ⟨t1, t2, t3⟩⟩
      have hLw : Lw_ (Lx ++ [oo]) LM (mg_ Lx κx κm) (mg_ Lx Rx Rm) (mg_ Lx owx owm) mm tp (mg_ Lx Ix Im) 0 0 := ⟨iv_0 WX FX, iw_0 m4 m5 m6 FM, by rw [FX tp t2 5, t3]; decide, by rw [FM mm m3 2, hmk']; decide⟩
      have hLb : Lb_ (mg_ Lx Rx Rm) mm tp (mg_ Lx Ix Im) (mg_ Lx Jx Jm) 0 := by
        obtain ⟨w, w1, w2, w3, w4, w5⟩ := shp_a (WX tp t2) t3 1 15 28 rfl (by decide)
        refine ⟨fun j hj => absurd hj (by rw [show (0 : Int32).toInt = 0 from by decide]; omega), fun j hj => ?_⟩
        rw [rr_s w1]
        have htx : tp ∈ Lx := (List.mem_append.mp t2).elim id (fun h => by rw [List.mem_singleton] at h; rw [h, hok] at t3; exact absurd t3 (by decide))
        exact (GX tp htx).2.2.1 t3 w w1 j hj
      obtain ⟨th, u1, u2, u3⟩ := shp_o (GX x hxL).1 hxk' 1 8 rfl (by decide)
      obtain ⟨zrd, v1, v2, v3⟩ := shp_o (GX x hxL).1 hxk' 5 9 rfl (by decide)
      obtain ⟨trd, w1, w2, w3⟩ := shp_o (GX zrd v2).1 v3 0 8 rfl (by decide)
      obtain ⟨tA, za1, za2, za3, za4, -⟩ := shp_a (GX x hxL).1 hxk' 12 18 2 rfl (by decide)
      obtain ⟨tb0, zb1, zb2, zb3⟩ := (GX tA za2).1.2.2 za3 0 (by rw [za4]; decide)
      obtain ⟨tb1, zd1, zd2, zd3⟩ := (GX tA za2).1.2.2 za3 1 (by rw [za4]; decide)
      obtain ⟨tt0, zp1, zp2, zp3⟩ := shp_o (GX tb0 zb2).1 zb3 0 8 rfl (by decide)
      obtain ⟨tt1, zq1, zq2, zq3⟩ := shp_o (GX tb1 zd2).1 zd3 0 8 rfl (by decide)
      obtain ⟨rnw, zr1, zr2, zr3, -, zr5⟩ := shp_a (m4 mm m3) hmk' 14 14 389 rfl (by decide)
      obtain ⟨rkt, zs1, zs2, zs3, -, zs5⟩ := shp_a (m4 mm m3) hmk' 16 14 778 rfl (by decide)
      obtain ⟨rkp, zy1, zy2, zy3, -, zy5⟩ := shp_a (m4 mm m3) hmk' 22 16 2 rfl (by decide)
      have zo1 := ((GX x hxL).2.2.2 1 (Or.inr (Or.inr ⟨hxk', rfl⟩)) th u1).2
      have zo2 := ((GX zrd v2).2.2.2 0 (Or.inl ⟨v3, rfl⟩) trd w1).2
      have zo3 := ((GX tb0 zb2).2.2.2 0 (Or.inr (Or.inl ⟨zb3, rfl⟩)) tt0 zp1).2
      have zo4 := ((GX tb1 zd2).2.2.2 0 (Or.inr (Or.inl ⟨zd3, rfl⟩)) tt1 zq1).2
      have zne : ∀ {a b t u : Nat}, mg_ Lx owx owm t = (a, 0) → mg_ Lx owx owm u = (b, 0) → a ≠ b → t ≠ u := fun h1 h2 h3 e => h3 (by rw [e, h2] at h1; cases h1; rfl)
      have zk : ∀ {a b k k2 : Nat}, mg_ Lx κx κm a = k → mg_ Lx κx κm b = k2 → k ≠ k2 → a ≠ b := fun h1 h2 h3 e => h3 (by rw [e, h2] at h1; exact h1.symm)
      have zbb : tb0 ≠ tb1 := fun e => hp2.2 tA (by rw [← mg_x (f := Rx) (g := Rm) hxL]; exact za1) (by rw [← mg_x (f := Rx) (g := Rm) za2, zb1, zd1, e])
      have hLo : Lo_ (Lx ++ [oo]) LM (mg_ Lx κx κm) (mg_ Lx Rx Rm) (mg_ Lx owx owm) x mm th trd tA tb0 tb1 tt0 tt1 rnw rkp rkt := ⟨⟨u1, List.mem_append_left _ u2, u3⟩, by rw [rr_s v1, rr_s w1], ⟨za1, zb1, zd1⟩, ⟨List.mem_append_left _ zb2, zb3, List.mem_append_left _ zd2, zd3, zbb⟩, ⟨zp1, List.mem_append_left _ zp2, zp3⟩, ⟨zq1, List.mem_append_left _ zq2, zq3⟩, ⟨zne zo1 zo3 (zk hxk' zb3 (by decide)), zne zo1 zo4 (zk hxk' zd3 (by decide)), zne zo3 zo4 zbb⟩, ⟨zne zo1 zo2 (zk hxk' v3 (by decide)), zne zo3 zo2 (zk zb3 v3 (by decide)), zne zo4 zo2 (zk zd3 v3 (by decide))⟩, ⟨zr1, zr2, ro_a zr3 (by decide) zr5 hmk' rfl⟩, ⟨zs1, zs2, ro_a zs3 (by decide) zs5 hmk' rfl⟩, ⟨zy1, zy2, ro_a zy3 (by decide) zy5 hmk' rfl⟩⟩
      have zf : ∀ k j, fv_ k j = 0 → ∀ a, a ∈ Lx → mg_ Lx κx κm a = k → mg_ Lx Ix Im a j = 0 := fun k j h a ha hk => by rw [FX a (List.mem_append_left _ ha) j, hk]; exact h
      have zg : ∀ k j, fv_ k j = 0 → ∀ a, a ∈ LM → mg_ Lx κx κm a = k → mg_ Lx Ix Im a j = 0 := fun k j h a ha hk => by rw [FM a ha j, hk]; exact h
      have hLt : Lt_ (mg_ Lx Rx Rm) th tb0 tb1 tt0 tt1 rnw rkp rkt (mg_ Lx Ix Im) := by
        have z5 := zf 8 5 (by decide) th u2 u3
        refine ⟨⟨⟨z5.trans (zg 14 0 (by decide) rnw zr2 zr3).symm, (zf 8 6 (by decide) th u2 u3).trans (zg 14 1 (by decide) rnw zr2 zr3).symm, (zf 8 7 (by decide) th u2 u3).trans (zg 14 2 (by decide) rnw zr2 zr3).symm, (zf 8 8 (by decide) th u2 u3).trans (zg 14 3 (by decide) rnw zr2 zr3).symm⟩, fun q _ j _ hj => absurd hj (by rw [z5, show (0 : Int32).toInt = 0 from by decide]; omega)⟩, ⟨(zf 3 3 (by decide) tb0 zb2 zb3).trans (zg 16 0 (by decide) rkp zy2 zy3).symm, fun h => absurd (zg 16 0 (by decide) rkp zy2 zy3) h⟩, ⟨(zf 3 3 (by decide) tb1 zd2 zd3).trans (zg 16 1 (by decide) rkp zy2 zy3).symm, fun h => absurd (zg 16 1 (by decide) rkp zy2 zy3) h⟩⟩
      obtain ⟨rnm, zn1, zn2, zn3, -, zn5⟩ := shp_a (m4 mm m3) hmk' 19 15 13 rfl (by decide)
      obtain ⟨rkn, zm1, zm2, zm3, -, zm5⟩ := shp_a (m4 mm m3) hmk' 21 15 26 rfl (by decide)
      have hLq : Lpn_ LM (mg_ Lx κx κm) (mg_ Lx Rx Rm) (mg_ Lx owx owm) mm rnm rkn := ⟨⟨zn1, zn2, ro_a zn3 (by decide) zn5 hmk' rfl⟩, ⟨zm1, zm2, ro_a zm3 (by decide) zm5 hmk' rfl⟩⟩
      have hLn : Ln_ (mg_ Lx Rx Rm) th tt0 tt1 rkp rnm rkn (mg_ Lx Ix Im) (mg_ Lx Jx Jm) := by
        have z5 := zf 8 5 (by decide) th u2 u3
        have z6 := zf 8 6 (by decide) th u2 u3
        refine ⟨⟨⟨by rw [z5]; decide, by rw [z6]; decide⟩, fun q _ j hj => absurd hj (by rw [z5, show (0 : Int32).toInt = 0 from by decide]; omega), fun q _ j hj => absurd hj (by rw [z6, show (0 : Int32).toInt = 0 from by decide]; omega)⟩, fun h => absurd (zg 16 0 (by decide) rkp zy2 zy3) h, fun h => absurd (zg 16 1 (by decide) rkp zy2 zy3) h⟩
      have htx9 : tp ∈ Lx := (List.mem_append.mp t2).elim id (fun h => by rw [List.mem_singleton] at h; rw [h, hok] at t3; exact absurd t3 (by decide))
      have hLf : Lf_ mm tp (mg_ Lx Ix Im) := (zf 10 11 (by decide) tp htx9 t3).trans (zg 12 10 (by decide) mm m3 hmk').symm
      have hLc : Lc_ p s m c D cy (Lx ++ Lm) b L xs := ⟨C, ⟨List.nodup_append.mpr ⟨K2.1, K6.1, fun a ha q hq e => hdj q hq (e ▸ ha)⟩, fun q hq => (List.mem_append.mp hq).elim (K2.2.1 q) (fun h => hA q (Nat.le_trans hS1.1 (hz q (K6.2.1 q h)))), hK⟩, hX, hbl, hbA⟩
      have hS3 : va_S (AN_ [] s.heap.size) s.heap H2 [] := ⟨Nat.le_trans hS1.1 hS2.1, fun q h1 h2 => (hS2.2.1 q (Nat.lt_of_lt_of_le h1 hS1.1) (fun h => absurd (Nat.lt_of_lt_of_le h1 hS1.1) (Nat.not_lt.mpr (hz q h)))).trans (hS1.2.1 q h1 h2), fun _ h => absurd h List.not_mem_nil⟩
      have hP3 : va_P D vwCl (va_pl (Lx ++ Lm) (cel_ cy (mg_ Lx κx κm) (mg_ Lx lnx lnm) (mg_ Lx Rx Rm) (mg_ Lx Ix Im) (mg_ Lx Jx Jm))) H2 := pl_iff.mpr (fun a ha => by
        by_cases hxa : a ∈ Lx
        · rw [cel_cong (κ' := κx) (ln' := lnx) (R' := Rx) (I' := Ix) (J' := Jx) (mg_x hxa) (mg_x hxa) (fun j => by rw [mg_x hxa]) (fun j => by rw [mg_x hxa]) (fun j => by rw [mg_x hxa])]
          exact (hP1' a hxa).kept (hS2.2.1 a (hP1' a hxa).lt (fun h => absurd (hP1' a hxa).lt (Nat.not_lt.mpr (hz a h))))
        · rw [cel_cong (κ' := κm) (ln' := lnm) (R' := Rm) (I' := Im) (J' := Jm) (mg_m hxa) (mg_m hxa) (fun j => by rw [mg_m hxa]) (fun j => by rw [mg_m hxa]) (fun j => by rw [mg_m hxa])]
          exact hP2' a ((List.mem_append.mp ha).resolve_left hxa))
      exact lw_loop (I := fun _ _ => 0) (J := fun _ _ => 0) hLc hL hLp hLo hLq hst hE hE2 hr hlk (L + 1) 0 _ _ 0 (by omega) (by omega) hLw hLb hLt hLn hLf H2 [] ls2 hP3 hS3 hl2
    exact G2 H1 [] ls1 (pl_iff.mpr (fun a h => absurd h List.not_mem_nil)) va_S.rf hl1
  rw [lg_entry_eq]
  exact G1 s.heap [] _ (pl_iff.mpr (fun a h => absurd h List.not_mem_nil)) va_S.rf (lv_sub (lv_entry ([Value.ref b] : List Value) (Nat.le_of_ble_eq_true rfl)) [0] rfl)
