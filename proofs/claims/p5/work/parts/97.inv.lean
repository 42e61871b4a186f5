/-- two parts of the pool: that of the class's object (and the row out), that of the reference's -/
def Lv_ (L LX LM : List Nat) (κ ln : Nat → Nat) (R : Nat → Nat → Option Nat) (ow : Nat → Nat × Nat) (x mm oo tp : Nat) : Prop := (∀ a ∈ LX, a ∈ L) ∧ LX.Nodup ∧ (∀ a ∈ LM, a ∈ L) ∧ LM.Nodup ∧ (∀ a ∈ LM, a ∉ LX) ∧ (∀ a ∈ LX, Shp LX κ ln R ow a) ∧ (∀ a ∈ LM, Shp LM κ ln R ow a) ∧ (x ∈ LX ∧ κ x = 11) ∧ (mm ∈ LM ∧ κ mm = 12) ∧ (oo ∈ LX ∧ κ oo = 15 ∧ ln oo = 1) ∧ (R x 0 = some tp ∧ tp ∈ LX ∧ κ tp = 10)
/-- both are as they may be; the tapes have c and d bytes -/
def Lw_ (LX LM : List Nat) (κ : Nat → Nat) (R : Nat → Nat → Option Nat) (ow : Nat → Nat × Nat) (mm tp : Nat) (I : Nat → Nat → Int32) (c d : Int32) : Prop := Iv LX κ R ow I ∧ Iw LM κ R ow I ∧ I tp 5 = c ∧ I mm 2 = d
/-- where the law stands, and its script -/
def Lc_ (p : Program) (s : State) (m : MethodId) (c : Code) (D : va_G) (cy : Nat → ClassId) (L : List Nat) (b N : Nat) (xs : Nat → Int32) : Prop := CallFix p m c cL_law 7 s #[Value.ref b] GT RL ∧ Wc_ D cy (AN_ [] s.heap.size) L s ∧ va_X b N xs s s.heap ∧ b < s.heap.size ∧ ¬ AN_ [] s.heap.size b
section LWI
variable {L LX LM : List Nat} {κ ln : Nat → Nat} {R : Nat → Nat → Option Nat} {ow : Nat → Nat × Nat} {x mm oo tp : Nat} {I I2 I3 : Nat → Nat → Int32} {c d c2 d2 : Int32} {T : List Nat}
theorem iv_cg (W9 : ∀ a ∈ L, Shp L κ ln R ow a) (h : Iv L κ R ow I) (e : ∀ a ∈ L, I2 a = I a) : Iv L κ R ow I2 := iv_of W9 h (fun a ha j => by rw [e a ha]; exact h.1 a ha j) (fun c hc i _ => by rw [e c hc])
theorem iw_cg (W9 : ∀ a ∈ L, Shp L κ ln R ow a) (h : Iw L κ R ow I) (e : ∀ a ∈ L, I2 a = I a) : Iw L κ R ow I2 := ⟨fun a ha j => by rw [e a ha]; exact h.1 a ha j, gm_of W9 h.2 (fun c hc i _ => by rw [e c hc])⟩
theorem lx_set (H : Lv_ L LX LM κ ln R ow x mm oo tp) (h : Lw_ LX LM κ R ow mm tp I c d) (h1 : Iv LX κ R ow I2) (ht : I2 tp 5 = c2) (e1 : ∀ a ∈ LX, I3 a = I2 a) (e2 : ∀ a, a ∉ LX → I3 a = I a) : Lw_ LX LM κ R ow mm tp I3 c2 d := by
  obtain ⟨-, -, -, -, hdj, Wx, Wm, -, ⟨hm, km⟩, -, ⟨hR, htp, ktp⟩⟩ := H
  exact ⟨iv_cg Wx h1 e1, iw_cg Wm h.2.1 (fun a ha => e2 a (hdj a ha)), by rw [e1 tp htp]; exact ht, by rw [e2 mm (hdj mm hm)]; exact h.2.2.2⟩
theorem lx_keep (H : Lv_ L LX LM κ ln R ow x mm oo tp) (h : Lw_ LX LM κ R ow mm tp I c d) (h1 : Iv LX κ R ow I2) (h2 : Fq LX κ ow T I I2) (hT : 10 * 100 + 5 ∉ T) (e1 : ∀ a ∈ LX, I3 a = I2 a) (e2 : ∀ a, a ∉ LX → I3 a = I a) : Lw_ LX LM κ R ow mm tp I3 c d :=
  lx_set H h h1 (fq_at h2 H.2.2.2.2.2.2.2.2.2.2.2.1 H.2.2.2.2.2.2.2.2.2.2.2.2 (by decide) hT h.2.2.1) e1 e2
theorem lx_pure (H : Lv_ L LX LM κ ln R ow x mm oo tp) (h : Lw_ LX LM κ R ow mm tp I c d) (h1 : I = I2) (e1 : ∀ a ∈ LX, I3 a = I2 a) (e2 : ∀ a, a ∉ LX → I3 a = I a) : Lw_ LX LM κ R ow mm tp I3 c d := by
  subst h1
  exact lx_set H h h.1 h.2.2.1 e1 e2
theorem lm_set (H : Lv_ L LX LM κ ln R ow x mm oo tp) (h : Lw_ LX LM κ R ow mm tp I c d) (h1 : Iw LM κ R ow I2) (ht : I2 mm 2 = d2) (e1 : ∀ a ∈ LM, I3 a = I2 a) (e2 : ∀ a, a ∉ LM → I3 a = I a) : Lw_ LX LM κ R ow mm tp I3 c d2 := by
  obtain ⟨-, -, -, -, hdj, Wx, Wm, -, ⟨hm, km⟩, -, ⟨hR, htp, ktp⟩⟩ := H
  have hdx : ∀ a ∈ LX, a ∉ LM := fun a ha q => hdj a q ha
  exact ⟨iv_cg Wx h.1 (fun a ha => e2 a (hdx a ha)), iw_cg Wm h1 e1, by rw [e2 tp (hdx tp htp)]; exact h.2.2.1, by rw [e1 mm hm]; exact ht⟩
theorem lm_keep (H : Lv_ L LX LM κ ln R ow x mm oo tp) (h : Lw_ LX LM κ R ow mm tp I c d) (h1 : Iw LM κ R ow I2) (h2 : Fq LM κ ow T I I2) (hT : 12 * 100 + 2 ∉ T) (e1 : ∀ a ∈ LM, I3 a = I2 a) (e2 : ∀ a, a ∉ LM → I3 a = I a) : Lw_ LX LM κ R ow mm tp I3 c d :=
  lm_set H h h1 (fq_at h2 H.2.2.2.2.2.2.2.2.1.1 H.2.2.2.2.2.2.2.2.1.2 (by decide) hT h.2.2.2) e1 e2
theorem lm_pure (H : Lv_ L LX LM κ ln R ow x mm oo tp) (h : Lw_ LX LM κ R ow mm tp I c d) (h1 : I = I2) (e1 : ∀ a ∈ LM, I3 a = I2 a) (e2 : ∀ a, a ∉ LM → I3 a = I a) : Lw_ LX LM κ R ow mm tp I3 c d := by
  subst h1
  exact lm_set H h h.2.1 h.2.2.2 e1 e2
end LWI
/-- the bytes of both tapes, up to c; the class's words -/
def Lb_ (R : Nat → Nat → Option Nat) (mm tp : Nat) (I : Nat → Nat → Int32) (J : Nat → Nat → Int64) (c : Int32) : Prop := (∀ j : Nat, (j : Int) < c.toInt → By_ (I (rr_ R tp 0) j) (I (rr_ R mm 1) j)) ∧ Wk_ (J (rr_ R tp 1))
section LWB
variable {L LX LM : List Nat} {κ ln : Nat → Nat} {R : Nat → Nat → Option Nat} {ow : Nat → Nat × Nat} {x mm oo tp : Nat} {I I2 I3 Ia1 Ib1 Ia2 Ib2 : Nat → Nat → Int32} {J J2 J3 Ja1 Jb1 Ja2 Jb2 : Nat → Nat → Int64} {c d c2 d2 r1 r2 v1 v2 v3 v4 v5 : Int32} {T T2 : List Nat}
theorem lv_rows (H : Lv_ L LX LM κ ln R ow x mm oo tp) : (rr_ R tp 0 ∈ LX ∧ ro_ κ ow (rr_ R tp 0) = 700) ∧ (rr_ R tp 1 ∈ LX ∧ ro_ κ ow (rr_ R tp 1) = 701 ∧ ln (rr_ R tp 1) = 28) ∧ (rr_ R mm 1 ∈ LM ∧ ro_ κ ow (rr_ R mm 1) = 821) := by
  obtain ⟨-, -, -, -, hdj, Wx, Wm, -, ⟨hm, km⟩, -, ⟨hR, htp, ktp⟩⟩ := H
  obtain ⟨b, h1, h2, h3, -, h5⟩ := shp_a (Wx tp htp) ktp 0 13 940 rfl (by decide)
  obtain ⟨w, w1, w2, w3, w4, w5⟩ := shp_a (Wx tp htp) ktp 1 15 28 rfl (by decide)
  obtain ⟨q, q1, q2, q3, -, q5⟩ := shp_a (Wm mm hm) km 1 14 940 rfl (by decide)
  rw [rr_s h1, rr_s w1, rr_s q1]
  exact ⟨⟨h2, ro_a h3 (by decide) h5 ktp rfl⟩, ⟨w2, ro_a w3 (by decide) w5 ktp rfl, w4⟩, ⟨q2, ro_a q3 (by decide) q5 km rfl⟩⟩
theorem lb_x (H : Lv_ L LX LM κ ln R ow x mm oo tp) (h : Lb_ R mm tp I J c) (h1 : Fq LX κ ow T I I2) (h2 : Fq LX κ ow T2 J J2) (hT : 700 * 100 ∉ T) (hT2 : 701 * 100 ∉ T2) (e1 : ∀ a ∈ LX, I3 a = I2 a) (e2 : ∀ a, a ∉ LX → I3 a = I a) (f1 : ∀ a ∈ LX, J3 a = J2 a) : Lb_ R mm tp I3 J3 c := by
  obtain ⟨⟨a1, a2⟩, ⟨b1, b2, -⟩, ⟨c1, -⟩⟩ := lv_rows H
  have hd := H.2.2.2.2.1
  refine ⟨fun j hj => ?_, fun j hj => ?_⟩
  · rw [e1 _ a1, e2 _ (hd _ c1), h1 _ a1 j (by rw [a2, tg_a (by decide)]; exact hT)]
    exact h.1 j hj
  · rw [f1 _ b1, h2 _ b1 j (by rw [b2, tg_a (by decide)]; exact hT2)]
    exact h.2 j hj
theorem lb_xp (H : Lv_ L LX LM κ ln R ow x mm oo tp) (h : Lb_ R mm tp I J c) (h1 : I = I2) (h2 : J = J2) (e1 : ∀ a ∈ LX, I3 a = I2 a) (e2 : ∀ a, a ∉ LX → I3 a = I a) (f1 : ∀ a ∈ LX, J3 a = J2 a) : Lb_ R mm tp I3 J3 c := lb_x (T := []) (T2 := []) H h (fun _ _ _ _ => by rw [h1]) (fun _ _ _ _ => by rw [h2]) (by decide) (by decide) e1 e2 f1
theorem lb_m (H : Lv_ L LX LM κ ln R ow x mm oo tp) (h : Lb_ R mm tp I J c) (h1 : Fq LM κ ow T I I2) (hT : 821 * 100 ∉ T) (e1 : ∀ a ∈ LM, I3 a = I2 a) (e2 : ∀ a, a ∉ LM → I3 a = I a) (f2 : ∀ a, a ∉ LM → J3 a = J a) : Lb_ R mm tp I3 J3 c := by
  obtain ⟨⟨a1, a2⟩, ⟨b1, b2, -⟩, ⟨c1, c2⟩⟩ := lv_rows H
  have hd : ∀ a ∈ LX, a ∉ LM := fun a ha q => H.2.2.2.2.1 a q ha
  refine ⟨fun j hj => ?_, fun j hj => ?_⟩
  · rw [e1 _ c1, e2 _ (hd _ a1), h1 _ c1 j (by rw [c2, tg_a (by decide)]; exact hT)]
    exact h.1 j hj
  · rw [f2 _ (hd _ b1)]
    exact h.2 j hj
theorem lb_mp (H : Lv_ L LX LM κ ln R ow x mm oo tp) (h : Lb_ R mm tp I J c) (h1 : I = I2) (e1 : ∀ a ∈ LM, I3 a = I2 a) (e2 : ∀ a, a ∉ LM → I3 a = I a) (f2 : ∀ a, a ∉ LM → J3 a = J a) : Lb_ R mm tp I3 J3 c := lb_m (T := []) H h (fun _ _ _ _ => by rw [h1]) (by decide) e1 e2 f2
theorem lb_p (H : Lv_ L LX LM κ ln R ow x mm oo tp) (h : Lb_ R mm tp I J c) (f : ∀ a, a ≠ oo → J3 a = J a) : Lb_ R mm tp I J3 c := by
  obtain ⟨-, ⟨-, -, b3⟩, -⟩ := lv_rows H
  have ho := H.2.2.2.2.2.2.2.2.2.1.2.2
  exact ⟨h.1, fun j hj => by rw [f _ (fun e => by rw [e, ho] at b3; exact absurd b3 (by decide))]; exact h.2 j hj⟩
theorem lb_le (h : Lb_ R mm tp I J c) (hc : c2.toInt ≤ c.toInt) : Lb_ R mm tp I J c2 := ⟨fun j hj => h.1 j (by omega), h.2⟩
theorem lw_0 (H : Lv_ L LX LM κ ln R ow x mm oo tp) (h : Lw_ LX LM κ R ow mm tp I c d) : 0 ≤ d.toInt ∧ d.toInt ≤ 940 := by
  have q := h.2.1.1 mm H.2.2.2.2.2.2.2.2.1.1 2
  rw [h.2.2.2, ro_o H.2.2.2.2.2.2.2.2.1.2 (by decide)] at q
  exact q
theorem te_le {n r : Int32} (h : Te_ c d n r) : d.toInt ≤ c.toInt := by
  rcases h with ⟨a1, a2, -, a4⟩ | ⟨-, -, a3⟩
  · rw [a4]; exact a2
  · rw [a3]; exact Int.le_refl _
theorem tb_le {n : Int32} (h : Tb_ c d n) (h0 : 0 ≤ c.toInt) : d.toInt ≤ c.toInt := by
  rcases h with ⟨-, a2⟩ | ⟨-, -, a3⟩
  · rw [a2]; exact h0
  · rw [a3]; exact Int.le_refl _
theorem tz_le (h : d = 0) (h0 : 0 ≤ c.toInt) : d.toInt ≤ c.toInt := by rw [h]; exact h0
theorem lb_bs (H : Lv_ L LX LM κ ln R ow x mm oo tp) (hw : Lw_ LX LM κ R ow mm tp I c c) (h : Lb_ R mm tp I J c) (e2 : ∀ q, q ∉ LX → Ib1 q = I q) : Bs (TPf R I J tp) (MTf R Ib1 Jb1 mm) (NRf R Ib1 Jb1 mm) ∧ (NRf R Ib1 Jb1 mm).taped.toInt ≤ 940 := by
  obtain ⟨-, -, ⟨c1, -⟩⟩ := lv_rows H
  have hd := H.2.2.2.2.1
  have hm := H.2.2.2.2.2.2.2.2.1.1
  have et : (NRf R Ib1 Jb1 mm).taped = c := by
    show Ib1 mm 2 = c
    rw [e2 mm (hd mm hm)]; exact hw.2.2.2
  have hc := lw_0 H hw
  refine ⟨⟨?_, ?_, fun j hj => ?_⟩, by rw [et]; exact hc.2⟩
  · rw [et]; exact hw.2.2.1
  · rw [et]; exact hc.1
  · rw [et] at hj
    show By_ (I (rr_ R tp 0) j) (Ib1 (rr_ R mm 1) j)
    rw [e2 _ (hd _ c1)]
    exact h.1 j hj
theorem lb_f (H : Lv_ L LX LM κ ln R ow x mm oo tp) (hw : Lw_ LX LM κ R ow mm tp I c c) (h : Lb_ R mm tp I J c) (g1 : Fq LX κ ow T2 J Ja1) (hT2 : 701 * 100 ∉ T2) (fx1 : (r1, TPf R Ia1 Ja1 (rr_ R x 0)) = fFeed v1 v2 v3 v4 v5 (TPf R I J (rr_ R x 0))) (e1 : ∀ q ∈ LX, Ib1 q = Ia1 q) (e2 : ∀ q, q ∉ LX → Ib1 q = I q) (f1 : ∀ q ∈ LX, Jb1 q = Ja1 q) (fx2 : (r2, MTf R Ia2 Ja2 mm, NRf R Ia2 Ja2 mm) = mFeed v1 v2 v3 v4 v5 (MTf R Ib1 Jb1 mm) (NRf R Ib1 Jb1 mm)) (e3 : ∀ q ∈ LM, Ib2 q = Ia2 q) (e4 : ∀ q, q ∉ LM → Ib2 q = Ib1 q) (f4 : ∀ q, q ∉ LM → Jb2 q = Jb1 q) : Lb_ R mm tp Ib2 Jb2 (Ia2 mm 2) := by
  obtain ⟨b0, b9⟩ := lb_bs (Jb1 := Jb1) H hw h e2
  obtain ⟨⟨a1, a2⟩, ⟨w1, w2, -⟩, ⟨c1, c2⟩⟩ := lv_rows H
  have hd : ∀ a ∈ LX, a ∉ LM := fun a ha q => H.2.2.2.2.1 a q ha
  rw [rr_s H.2.2.2.2.2.2.2.2.2.2.1] at fx1
  obtain ⟨-, k⟩ := feedB (a := v1) (b := v2) (c := v3) (d := v4) (e := v5) b0 b9
  rw [← fx1, ← fx2] at k
  obtain ⟨-, -, k3⟩ := k
  refine ⟨fun j hj => ?_, fun j hj => ?_⟩
  · rw [e4 _ (hd _ a1), e1 _ a1, e3 _ c1]
    exact k3 j hj
  · rw [f4 _ (hd _ w1), f1 _ w1, g1 _ w1 j (by rw [w2, tg_a (by decide)]; exact hT2)]
    exact h.2 j hj
theorem lb_t {bb : TB_} {cc : CP_} {xx : XP_} (H : Lv_ L LX LM κ ln R ow x mm oo tp) (hw : Lw_ LX LM κ R ow mm tp I c c) (h : Lb_ R mm tp I J c) (e2 : ∀ q, q ∉ LX → Ib1 q = I q) (fx1 : r1 = fTable (TPf R I J (rr_ R x 0)) bb cc xx) (fx2 : r2 = mTable (MTf R Ib1 Jb1 mm) (NRf R Ib1 Jb1 mm)) : r1 = r2 := by
  obtain ⟨b0, b9⟩ := lb_bs (Jb1 := Jb1) H hw h e2
  rw [rr_s H.2.2.2.2.2.2.2.2.2.2.1] at fx1
  rw [fx1, fx2]
  exact table_eq b0.1 b0.2.1 b9 b0.2.2 h.2
end LWB
/-- a table of the class is as the head of a row says -/
def Hh_ (R : Nat → Nat → Option Nat) (I : Nat → Nat → Int32) (h : Nat) (f : Nat → Int32) : Prop := (I h 5 = f 0 ∧ I h 6 = f 1 ∧ I h 7 = f 2 ∧ I h 8 = f 3) ∧ ∀ q, R h 2 = some q → ∀ j : Nat, j < 7 → (j : Int) < (I h 5).toInt → I q j = f (11 + j)
/-- a table is kept -/
def Kc_ (R : Nat → Nat → Option Nat) (I I2 : Nat → Nat → Int32) (c : Nat) : Prop := (∀ j, 5 ≤ j → j < 9 → I2 c j = I c j) ∧ ∀ q, R c 2 = some q → ∀ j, I2 q j = I q j
/-- the tables of the class, told apart; the rows of the reference -/
def Lo_ (LX LM : List Nat) (κ : Nat → Nat) (R : Nat → Nat → Option Nat) (ow : Nat → Nat × Nat) (x mm th trd tA tb0 tb1 tt0 tt1 rnw rkp rkt : Nat) : Prop := (R x 1 = some th ∧ th ∈ LX ∧ κ th = 8) ∧ rr_ R (rr_ R x 5) 0 = trd ∧ (R x 12 = some tA ∧ R tA 0 = some tb0 ∧ R tA 1 = some tb1) ∧ (tb0 ∈ LX ∧ κ tb0 = 3 ∧ tb1 ∈ LX ∧ κ tb1 = 3 ∧ tb0 ≠ tb1) ∧ (R tb0 0 = some tt0 ∧ tt0 ∈ LX ∧ κ tt0 = 8) ∧ (R tb1 0 = some tt1 ∧ tt1 ∈ LX ∧ κ tt1 = 8) ∧ (th ≠ tt0 ∧ th ≠ tt1 ∧ tt0 ≠ tt1) ∧ (th ≠ trd ∧ tt0 ≠ trd ∧ tt1 ≠ trd) ∧ (R mm 14 = some rnw ∧ rnw ∈ LM ∧ ro_ κ ow rnw = 834) ∧ (R mm 16 = some rkt ∧ rkt ∈ LM ∧ ro_ κ ow rkt = 836) ∧ (R mm 22 = some rkp ∧ rkp ∈ LM ∧ ro_ κ ow rkp = 842)
def Lt_ (R : Nat → Nat → Option Nat) (th tb0 tb1 tt0 tt1 rnw rkp rkt : Nat) (I : Nat → Nat → Int32) : Prop := Hh_ R I th (I rnw) ∧ (I tb0 3 = I rkp 0 ∧ (¬ I rkp 0 = 0 → Hh_ R I tt0 (I rkt))) ∧ (I tb1 3 = I rkp 1 ∧ (¬ I rkp 1 = 0 → Hh_ R I tt1 (fun j => I rkt (389 + j))))
section LWT
variable {L LX LM : List Nat} {κ ln : Nat → Nat} {R : Nat → Nat → Option Nat} {ow : Nat → Nat × Nat} {x mm oo tp : Nat} {I I2 I3 Ia1 Ib1 Ia2 Ib2 : Nat → Nat → Int32} {J J2 J3 Ja1 Jb1 Ja2 Jb2 : Nat → Nat → Int64} {c d c2 d2 r1 r2 n : Int32} {T T2 ts : List Nat} {th trd tA tb0 tb1 tt0 tt1 rnw rkp rkt t s : Nat} {f g : Nat → Int32}
theorem hh_cg (k : Kc_ R I I2 t) (hf : ∀ j, j < 72 → g j = f j) (H : Hh_ R I t f) : Hh_ R I2 t g := by
  obtain ⟨⟨h1, h2, h3, h4⟩, h5⟩ := H
  have e5 := k.1 5 (by decide) (by decide)
  refine ⟨⟨(e5.trans h1).trans (hf 0 (by decide)).symm, ((k.1 6 (by decide) (by decide)).trans h2).trans (hf 1 (by decide)).symm, ((k.1 7 (by decide) (by decide)).trans h3).trans (hf 2 (by decide)).symm, ((k.1 8 (by decide) (by decide)).trans h4).trans (hf 3 (by decide)).symm⟩, fun q hq j hj hp => ?_⟩
  rw [e5] at hp
  exact ((k.2 q hq j).trans (h5 q hq j hj hp)).trans (hf (11 + j) (by omega)).symm
theorem hh_sc (k : Sc_ R I I2 t s) (hs : ∃ b, R s 2 = some b) (hf : ∀ j, j < 72 → g j = f j) (H : Hh_ R I s f) : Hh_ R I2 t g := by
  obtain ⟨⟨h1, h2, h3, h4⟩, h5⟩ := H
  obtain ⟨b, hb⟩ := hs
  have e5 := k.1 5 (by decide) (by decide)
  refine ⟨⟨(e5.trans h1).trans (hf 0 (by decide)).symm, ((k.1 6 (by decide) (by decide)).trans h2).trans (hf 1 (by decide)).symm, ((k.1 7 (by decide) (by decide)).trans h3).trans (hf 2 (by decide)).symm, ((k.1 8 (by decide) (by decide)).trans h4).trans (hf 3 (by decide)).symm⟩, fun q hq j hj hp => ?_⟩
  rw [e5] at hp
  exact ((k.2 q b hq hb j hj).trans (h5 b hb j hj hp)).trans (hf (11 + j) (by omega)).symm
theorem hh_ct {b : TB_} {rd : Nat → Int32} (k : Ct_ R I2 t b) (ht : Tr2_ b rd) (hf : ∀ j, j < 72 → g j = rd j) : Hh_ R I2 t g := by
  obtain ⟨⟨h1, h2, h3, h4⟩, h5⟩ := k
  obtain ⟨a1, a2, a3, a4, a5⟩ := ht
  refine ⟨⟨h1.trans (a1.symm.trans (hf 0 (by decide)).symm), h2.trans (a2.symm.trans (hf 1 (by decide)).symm), h3.trans (a3.symm.trans (hf 2 (by decide)).symm), h4.trans (a4.symm.trans (hf 3 (by decide)).symm)⟩, fun q hq j hj hp => ?_⟩
  rw [h1] at hp
  exact (h5 q hq j hj).trans ((a5 j hp).symm.trans (hf (11 + j) (by omega)).symm)
/-- memory that is alike on the table and its row -/
theorem hh_al (W9 : ∀ a ∈ LX, Shp LX κ ln R ow a) (ht : t ∈ LX) (hk : κ t = 8) (e : ∀ a ∈ LX, I3 a = I2 a) (hf : ∀ j, j < 72 → g j = f j) (H : Hh_ R I2 t f) : Hh_ R I3 t g :=
  hh_cg ⟨fun j _ _ => by rw [e t ht], fun q hq j => by rw [e q (kt_row W9 ht hk hq).1]⟩ hf H
theorem kc_of (h : Kt_ LX κ R I I2 ts) (ht : t ∈ LX) (hk : κ t = 8) (hn : t ∉ ts) : Kc_ R I I2 t := h t ht hk hn
theorem t2_ex (W9 : ∀ a ∈ LX, Shp LX κ ln R ow a) (ht : t ∈ LX) (hk : κ t = 8) : ∃ b, R t 2 = some b := by
  obtain ⟨b, h1, -⟩ := shp_a (W9 t ht) hk 2 14 7 rfl (by decide)
  exact ⟨b, h1⟩
theorem fl_x (hF : Fq LX κ ow T I I2) (hT : 303 ∉ T) (ht : t ∈ LX) (hk : κ t = 3) : I2 t 3 = I t 3 := hF t ht 3 (by rw [ro_o hk (by decide), tg_, if_pos (by decide)]; exact hT)
/-- the class's object alone -/
theorem lt_x (H : Lv_ L LX LM κ ln R ow x mm oo tp) (O : Lo_ LX LM κ R ow x mm th trd tA tb0 tb1 tt0 tt1 rnw rkp rkt) (h : Lt_ R th tb0 tb1 tt0 tt1 rnw rkp rkt I) (k : Kt_ LX κ R I I2 ts) (n0 : th ∉ ts) (n1 : tt0 ∉ ts) (n2 : tt1 ∉ ts) (hF : Fq LX κ ow T I I2) (hT : 303 ∉ T) (e1 : ∀ a ∈ LX, I3 a = I2 a) (e2 : ∀ a, a ∉ LX → I3 a = I a) : Lt_ R th tb0 tb1 tt0 tt1 rnw rkp rkt I3 := by
  obtain ⟨⟨-, o1, o2⟩, -, -, ⟨o3, o4, o5, o6, -⟩, ⟨-, o7, o8⟩, ⟨-, o9, oa⟩, -, -, ⟨-, ob, -⟩, ⟨-, oc, -⟩, ⟨-, od, -⟩⟩ := O
  have hd := H.2.2.2.2.1
  have Wx := H.2.2.2.2.2.1
  obtain ⟨h1, ⟨h2, h3⟩, ⟨h4, h5⟩⟩ := h
  have z0 : I3 rnw = I rnw := e2 _ (hd _ ob)
  have z1 : I3 rkp = I rkp := e2 _ (hd _ od)
  have z2 : I3 rkt = I rkt := e2 _ (hd _ oc)
  unfold Lt_
  rw [z0, z1, z2]
  refine ⟨hh_al Wx o1 o2 e1 (fun _ _ => rfl) (hh_cg (kc_of k o1 o2 n0) (fun _ _ => rfl) h1), ⟨?_, fun q => hh_al Wx o7 o8 e1 (fun _ _ => rfl) (hh_cg (kc_of k o7 o8 n1) (fun _ _ => rfl) (h3 q))⟩, ⟨?_, fun q => hh_al Wx o9 oa e1 (fun _ _ => rfl) (hh_cg (kc_of k o9 oa n2) (fun _ _ => rfl) (h5 q))⟩⟩
  · rw [e1 _ o3, fl_x hF hT o3 o4]; exact h2
  · rw [e1 _ o5, fl_x hF hT o5 o6]; exact h4
theorem lt_xf (H : Lv_ L LX LM κ ln R ow x mm oo tp) (O : Lo_ LX LM κ R ow x mm th trd tA tb0 tb1 tt0 tt1 rnw rkp rkt) (h : Lt_ R th tb0 tb1 tt0 tt1 rnw rkp rkt I) (hF : Fq LX κ ow T I I2) (hT : (805 ∉ T ∧ 806 ∉ T ∧ 807 ∉ T ∧ 808 ∉ T ∧ 58200 ∉ T) ∧ 303 ∉ T) (e1 : ∀ a ∈ LX, I3 a = I2 a) (e2 : ∀ a, a ∉ LX → I3 a = I a) : Lt_ R th tb0 tb1 tt0 tt1 rnw rkp rkt I3 :=
  lt_x (ts := []) H O h (kt_fq H.2.2.2.2.2.1 kt_rf hF hT.1) List.not_mem_nil List.not_mem_nil List.not_mem_nil hF hT.2 e1 e2
theorem lt_xp (H : Lv_ L LX LM κ ln R ow x mm oo tp) (O : Lo_ LX LM κ R ow x mm th trd tA tb0 tb1 tt0 tt1 rnw rkp rkt) (h : Lt_ R th tb0 tb1 tt0 tt1 rnw rkp rkt I) (hp : I = I2) (e1 : ∀ a ∈ LX, I3 a = I2 a) (e2 : ∀ a, a ∉ LX → I3 a = I a) : Lt_ R th tb0 tb1 tt0 tt1 rnw rkp rkt I3 :=
  lt_xf (T := []) (I2 := I2) H O h (fun _ _ _ _ => by rw [hp]) (by decide) e1 e2
/-- both: tables as told, the reference's rows as told -/
theorem lt_two (H : Lv_ L LX LM κ ln R ow x mm oo tp) (O : Lo_ LX LM κ R ow x mm th trd tA tb0 tb1 tt0 tt1 rnw rkp rkt) (e1 : ∀ a ∈ LX, Ib1 a = Ia1 a) (e3 : ∀ a ∈ LM, Ib2 a = Ia2 a) (e4 : ∀ a, a ∉ LM → Ib2 a = Ib1 a)
    (p1 : Hh_ R Ia1 th (Ia2 rnw)) (p2 : Ia1 tb0 3 = Ia2 rkp 0) (p3 : ¬ Ia2 rkp 0 = 0 → Hh_ R Ia1 tt0 (Ia2 rkt)) (p4 : Ia1 tb1 3 = Ia2 rkp 1) (p5 : ¬ Ia2 rkp 1 = 0 → Hh_ R Ia1 tt1 (fun j => Ia2 rkt (389 + j))) : Lt_ R th tb0 tb1 tt0 tt1 rnw rkp rkt Ib2 := by
  obtain ⟨⟨-, o1, o2⟩, -, -, ⟨o3, o4, o5, o6, -⟩, ⟨-, o7, o8⟩, ⟨-, o9, oa⟩, -, -, ⟨-, ob, -⟩, ⟨-, oc, -⟩, ⟨-, od, -⟩⟩ := O
  have hd : ∀ a ∈ LX, a ∉ LM := fun a ha q => H.2.2.2.2.1 a q ha
  have Wx := H.2.2.2.2.2.1
  have ex : ∀ a ∈ LX, Ib2 a = Ia1 a := fun a ha => (e4 a (hd a ha)).trans (e1 a ha)
  unfold Lt_
  rw [e3 _ ob, e3 _ oc, e3 _ od, ex _ o3, ex _ o5]
  exact ⟨hh_al Wx o1 o2 ex (fun _ _ => rfl) p1, ⟨p2, fun q => hh_al Wx o7 o8 ex (fun _ _ => rfl) (p3 q)⟩, ⟨p4, fun q => hh_al Wx o9 oa ex (fun _ _ => rfl) (p5 q)⟩⟩
theorem rw_m (hF : Fq LM κ ow T I I2) {r : Nat} (hr : ro_ κ ow t = r) (hr2 : 13 ≤ r) (ht : t ∈ LM) (hT : r * 100 ∉ T) : ∀ j, I2 t j = I t j := fun j => hF t ht j (by rw [hr, tg_a hr2]; exact hT)
/-- the reference alone -/
theorem lt_m (H : Lv_ L LX LM κ ln R ow x mm oo tp) (O : Lo_ LX LM κ R ow x mm th trd tA tb0 tb1 tt0 tt1 rnw rkp rkt) (h : Lt_ R th tb0 tb1 tt0 tt1 rnw rkp rkt I) (k : Hd_ R mm I I2) (hF : Fq LM κ ow T I I2) (hT : 836 * 100 ∉ T ∧ 842 * 100 ∉ T) (e1 : ∀ a ∈ LM, I3 a = I2 a) (e2 : ∀ a, a ∉ LM → I3 a = I a) : Lt_ R th tb0 tb1 tt0 tt1 rnw rkp rkt I3 := by
  have O0 := O
  obtain ⟨⟨-, o1, o2⟩, -, -, ⟨o3, o4, o5, o6, -⟩, ⟨-, o7, o8⟩, ⟨-, o9, oa⟩, -, -, ⟨oe, ob, -⟩, ⟨-, oc, of_⟩, ⟨-, od, og⟩⟩ := O
  obtain ⟨h1, ⟨h2, h3⟩, ⟨h4, h5⟩⟩ := h
  have z1 := rw_m hF og (by decide) od hT.2
  have z2 := rw_m hF of_ (by decide) oc hT.1
  refine lt_two (Ia1 := I) (Ib1 := I) (Ia2 := I2) H O0 (fun _ _ => rfl) e1 e2 (hh_cg ⟨fun _ _ _ => rfl, fun _ _ _ => rfl⟩ (fun j hj => k rnw oe j hj) h1) (h2.trans (z1 0).symm) (fun q => hh_cg ⟨fun _ _ _ => rfl, fun _ _ _ => rfl⟩ (fun j _ => z2 j) (h3 (by rw [← z1 0]; exact q))) (h4.trans (z1 1).symm) (fun q => hh_cg ⟨fun _ _ _ => rfl, fun _ _ _ => rfl⟩ (fun j _ => z2 (389 + j)) (h5 (by rw [← z1 1]; exact q)))
theorem lt_mf (H : Lv_ L LX LM κ ln R ow x mm oo tp) (O : Lo_ LX LM κ R ow x mm th trd tA tb0 tb1 tt0 tt1 rnw rkp rkt) (h : Lt_ R th tb0 tb1 tt0 tt1 rnw rkp rkt I) (hF : Fq LM κ ow T I I2) (hT : 83400 ∉ T ∧ 836 * 100 ∉ T ∧ 842 * 100 ∉ T) (e1 : ∀ a ∈ LM, I3 a = I2 a) (e2 : ∀ a, a ∉ LM → I3 a = I a) : Lt_ R th tb0 tb1 tt0 tt1 rnw rkp rkt I3 :=
  lt_m H O h (hd_fq H.2.2.2.2.2.2.1 H.2.2.2.2.2.2.2.2.1.1 H.2.2.2.2.2.2.2.2.1.2 hd_rf hF hT.1) hF hT.2 e1 e2
theorem lt_mp (H : Lv_ L LX LM κ ln R ow x mm oo tp) (O : Lo_ LX LM κ R ow x mm th trd tA tb0 tb1 tt0 tt1 rnw rkp rkt) (h : Lt_ R th tb0 tb1 tt0 tt1 rnw rkp rkt I) (hp : I = I2) (e1 : ∀ a ∈ LM, I3 a = I2 a) (e2 : ∀ a, a ∉ LM → I3 a = I a) : Lt_ R th tb0 tb1 tt0 tt1 rnw rkp rkt I3 :=
  lt_mf (T := []) (I2 := I2) H O h (fun _ _ _ _ => by rw [hp]) (by decide) e1 e2
theorem lt_table {bb : TB_} {cc : CP_} {xx : XP_} (H : Lv_ L LX LM κ ln R ow x mm oo tp) (O : Lo_ LX LM κ R ow x mm th trd tA tb0 tb1 tt0 tt1 rnw rkp rkt) (hw : Lw_ LX LM κ R ow mm tp I c c) (hb : Lb_ R mm tp I J c) (h : Lt_ R th tb0 tb1 tt0 tt1 rnw rkp rkt I)
    (f1 : Fq LX κ ow T I Ia1) (hT : 303 ∉ T) (k1 : Kt_ LX κ R I Ia1 [rr_ R x 1, rr_ R (rr_ R x 5) 0]) (k2 : (∀ b, fTableB (TPf R I J (rr_ R x 0)) bb cc xx = some b → ∀ h, R x 1 = some h → Ct_ R Ia1 h b) ∧ (fTableB (TPf R I J (rr_ R x 0)) bb cc xx = none → Kt_ LX κ R I Ia1 [rr_ R (rr_ R x 5) 0]))
    (e1 : ∀ a ∈ LX, Ib1 a = Ia1 a) (e2 : ∀ a, a ∉ LX → Ib1 a = I a) (f2 : Fq LM κ ow T2 Ib1 Ia2) (hT2 : 836 * 100 ∉ T2 ∧ 842 * 100 ∉ T2)
    (k3 : (mTableB (MTf R Ib1 Jb1 mm) (NRf R Ib1 Jb1 mm) = none ∧ Hd_ R mm Ib1 Ia2) ∨ Nt_ R mm Ia2 (mTableB (MTf R Ib1 Jb1 mm) (NRf R Ib1 Jb1 mm))) (e3 : ∀ a ∈ LM, Ib2 a = Ia2 a) (e4 : ∀ a, a ∉ LM → Ib2 a = Ib1 a) : Lt_ R th tb0 tb1 tt0 tt1 rnw rkp rkt Ib2 := by
  obtain ⟨b0, b9⟩ := lb_bs (Jb1 := Jb1) H hw hb e2
  rw [rr_s H.2.2.2.2.2.2.2.2.2.2.1] at k2
  have O0 := O
  obtain ⟨⟨o0, o1, o2⟩, ord, -, ⟨o3, o4, o5, o6, -⟩, ⟨-, o7, o8⟩, ⟨-, o9, oa⟩, ⟨n1, n2, n3⟩, ⟨n4, n5, n6⟩, ⟨oe, ob, -⟩, ⟨-, oc, of_⟩, ⟨-, od, og⟩⟩ := O
  have hd := H.2.2.2.2.1
  rw [ord] at k1 k2
  rw [rr_s o0] at k1
  rcases tableB_eq (b := bb) (c := cc) (x := xx) b0.1 b0.2.1 b9 b0.2.2 hb.2 with ⟨z1, z2⟩ | ⟨b2, rd, z1, z2, z4, z3⟩
  · have q := lt_x H O0 h (k2.2 z1) (by rw [List.mem_singleton]; exact n4) (by rw [List.mem_singleton]; exact n5) (by rw [List.mem_singleton]; exact n6) f1 hT e1 e2
    rcases k3 with ⟨-, k3⟩ | ⟨rd, k3, -⟩
    · exact lt_m H O0 q k3 f2 hT2 e3 e4
    · rw [z2] at k3; cases k3
  · rcases k3 with ⟨k3, -⟩ | ⟨rd2, k3, k4⟩
    · rw [z2] at k3; cases k3
    · rw [z2] at k3; cases k3
      obtain ⟨h1, ⟨h2, h3⟩, ⟨h4, h5⟩⟩ := h
      have y1 : ∀ j, Ia2 rkp j = I rkp j := fun j => (rw_m f2 og (by decide) od hT2.2 j).trans (by rw [e2 _ (hd _ od)])
      have y2 : ∀ j, Ia2 rkt j = I rkt j := fun j => (rw_m f2 of_ (by decide) oc hT2.1 j).trans (by rw [e2 _ (hd _ oc)])
      have nn : ∀ {t : Nat}, th ≠ t → t ≠ trd → t ∉ [th, trd] := fun a b q => by
        rcases List.mem_cons.mp q with q | q
        · exact a q.symm
        · exact b (List.mem_singleton.mp q)
      exact lt_two H O0 e1 e3 e4 (hh_ct (k2.1 b2 z1 th o0) z3 (fun j hj => k4 rnw oe j hj)) ((fl_x f1 hT o3 o4).trans (h2.trans (y1 0).symm)) (fun q => hh_cg (kc_of k1 o7 o8 (nn n1 n5)) (fun j _ => y2 j) (h3 (by rw [← y1 0]; exact q))) ((fl_x f1 hT o5 o6).trans (h4.trans (y1 1).symm)) (fun q => hh_cg (kc_of k1 o9 oa (nn n2 n6)) (fun j _ => y2 (389 + j)) (h5 (by rw [← y1 1]; exact q)))
theorem lt_image (H : Lv_ L LX LM κ ln R ow x mm oo tp) (O : Lo_ LX LM κ R ow x mm th trd tA tb0 tb1 tt0 tt1 rnw rkp rkt) (h : Lt_ R th tb0 tb1 tt0 tt1 rnw rkp rkt I)
    (k1 : Kt_ LX κ R I Ia1 [rr_ R (rr_ R (rr_ R x 12) n.toNatClampNeg) 0]) (k2 : ∀ A b0 b1, R x 12 = some A → R A 0 = some b0 → R A 1 = some b1 → b0 ∈ LX → b1 ∈ LX → κ b0 = 3 → κ b1 = 3 → b0 ≠ b1 → Tm_ n (I b0 3) (I b1 3) (Ia1 b0 3) (Ia1 b1 3)) (k3 : (n = 0 ∨ n = 1 → ∀ A b t h, R x 12 = some A → R A n.toNatClampNeg = some b → R b 0 = some t → R x 1 = some h → Sc_ R I Ia1 t h) ∧ (¬ n = 0 ∧ ¬ n = 1 → Kt_ LX κ R I Ia1 []))
    (e1 : ∀ a ∈ LX, Ib1 a = Ia1 a) (e2 : ∀ a, a ∉ LX → Ib1 a = I a) (f2 : Fq LM κ ow T2 Ib1 Ia2) (hT2 : 834 * 100 ∉ T2)
    (k4 : ∀ kp, R mm 22 = some kp → Tm_ n (Ib1 kp 0) (Ib1 kp 1) (Ia2 kp 0) (Ia2 kp 1)) (k5 : (n = 0 ∨ n = 1 → Kp_ R mm Ib1 Ia2 n.toNatClampNeg) ∧ (¬ n = 0 ∧ ¬ n = 1 → Rw_ R mm Ib1 Ia2)) (e3 : ∀ a ∈ LM, Ib2 a = Ia2 a) (e4 : ∀ a, a ∉ LM → Ib2 a = Ib1 a) : Lt_ R th tb0 tb1 tt0 tt1 rnw rkp rkt Ib2 := by
  have O0 := O
  obtain ⟨⟨o0, o1, o2⟩, ord, ⟨a0, a1, a2⟩, ⟨o3, o4, o5, o6, on⟩, ⟨a3, o7, o8⟩, ⟨a4, o9, oa⟩, ⟨n1, n2, n3⟩, ⟨n4, n5, n6⟩, ⟨oe, ob, oh⟩, ⟨oi, oc, of_⟩, ⟨oj, od, og⟩⟩ := O
  have hd := H.2.2.2.2.1
  have Wx := H.2.2.2.2.2.1
  have m1 := k2 tA tb0 tb1 a0 a1 a2 o3 o5 o4 o6 on
  have m2 := k4 rkp oj
  rw [e2 _ (hd _ od)] at m2
  obtain ⟨h1, ⟨h2, h3⟩, ⟨h4, h5⟩⟩ := h
  rw [h2, h4] at m1
  obtain ⟨g0, g1⟩ := tm_1 m1 m2
  have y0 : ∀ j, Ia2 rnw j = I rnw j := fun j => (rw_m f2 oh (by decide) ob hT2 j).trans (by rw [e2 _ (hd _ ob)])
  rw [rr_s a0] at k1
  have c0 : (0 : Int32).toNatClampNeg = 0 := by decide
  have c1 : (1 : Int32).toNatClampNeg = 1 := by decide
  rcases m2 with ⟨z1, z2, z3⟩ | ⟨z1, z2, z3⟩ | ⟨z1, z2, z3, z4⟩
  · subst z1
    rw [c0, rr_s a1, rr_s a3] at k1
    have kp := k5.1 (Or.inl rfl) rnw rkt oe oi
    rw [c0] at kp
    have sc := k3.1 (Or.inl rfl) tA tb0 tt0 th a0 (by rw [c0]; exact a1) a3 o0
    refine lt_two H O0 e1 e3 e4 (hh_cg (kc_of k1 o1 o2 (by rw [List.mem_singleton]; exact n1)) (fun j _ => y0 j) h1) g0 (fun _ => hh_sc sc (t2_ex Wx o1 o2) (fun j hj => ?_) h1) g1 (fun q => hh_cg (kc_of k1 o9 oa (by rw [List.mem_singleton]; exact fun e => n3 e.symm)) (fun j hj => ?_) (h5 (by rw [← z3]; exact q)))
    · have := kp.1 j (by omega)
      rw [Nat.mul_zero, Nat.zero_add] at this
      rw [this, e2 _ (hd _ ob)]
    · show Ia2 rkt (389 + j) = I rkt (389 + j)
      rw [kp.2 (389 + j) (Or.inr (by omega)), e2 _ (hd _ oc)]
  · subst z1
    rw [c1, rr_s a2, rr_s a4] at k1
    have kp := k5.1 (Or.inr rfl) rnw rkt oe oi
    rw [c1] at kp
    have sc := k3.1 (Or.inr rfl) tA tb1 tt1 th a0 (by rw [c1]; exact a2) a4 o0
    refine lt_two H O0 e1 e3 e4 (hh_cg (kc_of k1 o1 o2 (by rw [List.mem_singleton]; exact n2)) (fun j _ => y0 j) h1) g0 (fun q => hh_cg (kc_of k1 o7 o8 (by rw [List.mem_singleton]; exact n3)) (fun j hj => ?_) (h3 (by rw [← z2]; exact q))) g1 (fun _ => hh_sc sc (t2_ex Wx o1 o2) (fun j hj => ?_) h1)
    · rw [kp.2 j (Or.inl (by omega)), e2 _ (hd _ oc)]
    · show Ia2 rkt (389 + j) = I rnw j
      have := kp.1 j (by omega)
      rw [Nat.mul_one] at this
      rw [this, e2 _ (hd _ ob)]
  · have kx := k3.2 ⟨z1, z2⟩
    have rw_ := k5.2 ⟨z1, z2⟩ rkt (Or.inr oi)
    have y2 : ∀ j, Ia2 rkt j = I rkt j := fun j => (rw_ j).trans (by rw [e2 _ (hd _ oc)])
    exact lt_two H O0 e1 e3 e4 (hh_cg (kc_of kx o1 o2 List.not_mem_nil) (fun j _ => y0 j) h1) g0 (fun q => hh_cg (kc_of kx o7 o8 List.not_mem_nil) (fun j _ => y2 j) (h3 (by rw [← z3]; exact q))) g1 (fun q => hh_cg (kc_of kx o9 oa List.not_mem_nil) (fun j _ => y2 (389 + j)) (h5 (by rw [← z4]; exact q)))
theorem lt_restore (H : Lv_ L LX LM κ ln R ow x mm oo tp) (O : Lo_ LX LM κ R ow x mm th trd tA tb0 tb1 tt0 tt1 rnw rkp rkt) (h : Lt_ R th tb0 tb1 tt0 tt1 rnw rkp rkt I)
    (f1 : Fq LX κ ow T I Ia1) (hT : 303 ∉ T) (k1 : Kt_ LX κ R I Ia1 [rr_ R x 1]) (k2 : ∀ A b0 b1, R x 12 = some A → R A 0 = some b0 → R A 1 = some b1 → Tq_ n (I b0 3) (I b1 3) r1) (k3 : (r1 = 1 → ∀ A b t h, R x 12 = some A → R A n.toNatClampNeg = some b → R b 0 = some t → R x 1 = some h → Sc_ R I Ia1 h t) ∧ (¬ r1 = 1 → Kt_ LX κ R I Ia1 []))
    (e1 : ∀ a ∈ LX, Ib1 a = Ia1 a) (e2 : ∀ a, a ∉ LX → Ib1 a = I a) (f2 : Fq LM κ ow T2 Ib1 Ia2) (hT2 : 836 * 100 ∉ T2 ∧ 842 * 100 ∉ T2)
    (k4 : ∀ kp, R mm 22 = some kp → Tq_ n (Ib1 kp 0) (Ib1 kp 1) r2) (k5 : (r2 = 1 → Kr_ R mm Ib1 Ia2 n.toNatClampNeg) ∧ (¬ r2 = 1 → Hd_ R mm Ib1 Ia2)) (e3 : ∀ a ∈ LM, Ib2 a = Ia2 a) (e4 : ∀ a, a ∉ LM → Ib2 a = Ib1 a) : Lt_ R th tb0 tb1 tt0 tt1 rnw rkp rkt Ib2 := by
  have O0 := O
  obtain ⟨⟨o0, o1, o2⟩, ord, ⟨a0, a1, a2⟩, ⟨o3, o4, o5, o6, on⟩, ⟨a3, o7, o8⟩, ⟨a4, o9, oa⟩, ⟨n1, n2, n3⟩, ⟨n4, n5, n6⟩, ⟨oe, ob, oh⟩, ⟨oi, oc, of_⟩, ⟨oj, od, og⟩⟩ := O
  have hd := H.2.2.2.2.1
  have Wx := H.2.2.2.2.2.1
  have m1 := k2 tA tb0 tb1 a0 a1 a2
  have m2 := k4 rkp oj
  rw [e2 _ (hd _ od)] at m2
  have h0 := h
  obtain ⟨h1, ⟨h2, h3⟩, ⟨h4, h5⟩⟩ := h
  rw [h2, h4] at m1
  have er : r1 = r2 := tq_1 m1 m2
  by_cases hr : r2 = 1
  · have kr := k5.1 hr rnw rkt oe oi
    have y1 : ∀ j, Ia2 rkp j = I rkp j := fun j => (rw_m f2 og (by decide) od hT2.2 j).trans (by rw [e2 _ (hd _ od)])
    have y2 : ∀ j, Ia2 rkt j = I rkt j := fun j => (rw_m f2 of_ (by decide) oc hT2.1 j).trans (by rw [e2 _ (hd _ oc)])
    rw [rr_s o0] at k1
    have c0 : (0 : Int32).toNatClampNeg = 0 := by decide
    have c1 : (1 : Int32).toNatClampNeg = 1 := by decide
    have p1 : Hh_ R Ia1 th (Ia2 rnw) := by
      rcases m2 with ⟨z1, z2⟩ | ⟨z1, z2⟩ | ⟨-, -, z2⟩
      · rcases z2 with ⟨-, z2⟩ | ⟨z2, -⟩
        · rw [hr] at z2; exact absurd z2 (by decide)
        · have sc := k3.1 (er.trans hr) tA tb0 tt0 th a0 (by rw [z1, c0]; exact a1) a3 o0
          refine hh_sc sc (t2_ex Wx o7 o8) (fun j hj => ?_) (h3 z2)
          rw [kr j hj, z1, c0, Nat.mul_zero, Nat.zero_add, e2 _ (hd _ oc)]
      · rcases z2 with ⟨-, z2⟩ | ⟨z2, -⟩
        · rw [hr] at z2; exact absurd z2 (by decide)
        · have sc := k3.1 (er.trans hr) tA tb1 tt1 th a0 (by rw [z1, c1]; exact a2) a4 o0
          refine hh_sc sc (t2_ex Wx o9 oa) (fun j hj => ?_) (h5 z2)
          rw [kr j hj, z1, c1, Nat.mul_one, e2 _ (hd _ oc)]
      · rw [hr] at z2; exact absurd z2 (by decide)
    exact lt_two H O0 e1 e3 e4 p1 ((fl_x f1 hT o3 o4).trans (h2.trans (y1 0).symm)) (fun q => hh_cg (kc_of k1 o7 o8 (by rw [List.mem_singleton]; exact fun e => n1 e.symm)) (fun j _ => y2 j) (h3 (by rw [← y1 0]; exact q))) ((fl_x f1 hT o5 o6).trans (h4.trans (y1 1).symm)) (fun q => hh_cg (kc_of k1 o9 oa (by rw [List.mem_singleton]; exact fun e => n2 e.symm)) (fun j _ => y2 (389 + j)) (h5 (by rw [← y1 1]; exact q)))
  · exact lt_m H O0 (lt_x H O0 h0 (k3.2 (by rw [er]; exact hr)) List.not_mem_nil List.not_mem_nil List.not_mem_nil f1 hT e1 e2) (k5.2 hr) f2 hT2 e3 e4
theorem lt_count (H : Lv_ L LX LM κ ln R ow x mm oo tp) (O : Lo_ LX LM κ R ow x mm th trd tA tb0 tb1 tt0 tt1 rnw rkp rkt) (hw : Lw_ LX LM κ R ow mm tp I c c) (h : Lt_ R th tb0 tb1 tt0 tt1 rnw rkp rkt I) (k1 : ∀ h t, R x 1 = some h → R x 0 = some t → Cn_ n (I h 5) (I h 6) (I h 7) (I h 8) (I t 5) r1) (e2 : ∀ a, a ∉ LX → Ib1 a = I a) (k2 : ∀ h, R mm 14 = some h → Cn_ n (Ib1 h 0) (Ib1 h 1) (Ib1 h 2) (Ib1 h 3) (Ib1 mm 2) r2) : r1 = r2 := by
  obtain ⟨⟨o0, o1, o2⟩, -, -, -, -, -, -, -, ⟨oe, ob, -⟩, -, -⟩ := O
  have hd := H.2.2.2.2.1
  have q1 := k1 th tp o0 H.2.2.2.2.2.2.2.2.2.2.1
  have q2 := k2 rnw oe
  rw [e2 _ (hd _ ob), e2 _ (hd _ H.2.2.2.2.2.2.2.2.1.1)] at q2
  obtain ⟨⟨⟨h1, h2, h3, h4⟩, -⟩, -⟩ := h
  exact cn_1 q1 q2 h1 h2 h3 h4 (hw.2.2.1.trans hw.2.2.2.symm)
end LWT
/-- a table's names are those of a row -/
def Hn_ (R : Nat → Nat → Option Nat) (I : Nat → Nat → Int32) (J : Nat → Nat → Int64) (h : Nat) (f : Nat → Int64) : Prop := ((I h 5).toInt ≤ 7 ∧ (I h 6).toInt ≤ 6) ∧ (∀ q, R h 0 = some q → ∀ j : Nat, (j : Int) < (I h 5).toInt → Wd (J q j) (f j)) ∧ ∀ q, R h 3 = some q → ∀ j : Nat, (j : Int) < (I h 6).toInt → Wd (J q j) (f (7 + j))
/-- the rows of names of the reference -/
def Lpn_ (LM : List Nat) (κ : Nat → Nat) (R : Nat → Nat → Option Nat) (ow : Nat → Nat × Nat) (mm rnm rkn : Nat) : Prop := (R mm 19 = some rnm ∧ rnm ∈ LM ∧ ro_ κ ow rnm = 839) ∧ (R mm 21 = some rkn ∧ rkn ∈ LM ∧ ro_ κ ow rkn = 841)
def Ln_ (R : Nat → Nat → Option Nat) (th tt0 tt1 rkp rnm rkn : Nat) (I : Nat → Nat → Int32) (J : Nat → Nat → Int64) : Prop := Hn_ R I J th (J rnm) ∧ (¬ I rkp 0 = 0 → Hn_ R I J tt0 (J rkn)) ∧ (¬ I rkp 1 = 0 → Hn_ R I J tt1 (fun j => J rkn (13 + j)))
section LWN
variable {L LX LM : List Nat} {κ ln : Nat → Nat} {R : Nat → Nat → Option Nat} {ow : Nat → Nat × Nat} {x mm oo tp : Nat} {I I2 I3 Ia1 Ib1 Ia2 Ib2 : Nat → Nat → Int32} {J J2 J3 Ja1 Jb1 Ja2 Jb2 : Nat → Nat → Int64} {c d c2 d2 r1 r2 n : Int32} {T T2 T3 T4 ts : List Nat} {th trd tA tb0 tb1 tt0 tt1 rnw rkp rkt rnm rkn t s : Nat} {f g : Nat → Int64}
theorem hn_cg (k : Kc_ R I I2 t) (kn : ∀ q, (R t 0 = some q ∨ R t 3 = some q) → ∀ j, J2 q j = J q j) (hf : ∀ j, j < 13 → g j = f j) (H : Hn_ R I J t f) : Hn_ R I2 J2 t g := by
  obtain ⟨⟨h1, h2⟩, h3, h4⟩ := H
  have e5 := k.1 5 (by decide) (by decide)
  have e6 := k.1 6 (by decide) (by decide)
  unfold Hn_
  rw [e5, e6]
  exact ⟨⟨h1, h2⟩, fun q hq j hj => by rw [kn q (Or.inl hq) j, hf j (by omega)]; exact h3 q hq j hj, fun q hq j hj => by rw [kn q (Or.inr hq) j, hf (7 + j) (by omega)]; exact h4 q hq j hj⟩
theorem hn_sc (k : Sc_ R I I2 t s) (kn : Sn_ R J J2 t s) (hs : (∃ b, R s 0 = some b) ∧ ∃ b, R s 3 = some b) (hf : ∀ j, j < 13 → g j = f j) (H : Hn_ R I J s f) : Hn_ R I2 J2 t g := by
  obtain ⟨⟨h1, h2⟩, h3, h4⟩ := H
  obtain ⟨⟨b0, hb0⟩, ⟨b3, hb3⟩⟩ := hs
  have e5 := k.1 5 (by decide) (by decide)
  have e6 := k.1 6 (by decide) (by decide)
  unfold Hn_
  rw [e5, e6]
  exact ⟨⟨h1, h2⟩, fun q hq j hj => by rw [kn.1 q b0 hq hb0 j (by omega), hf j (by omega)]; exact h3 b0 hb0 j hj, fun q hq j hj => by rw [kn.2 q b3 hq hb3 j (by omega), hf (7 + j) (by omega)]; exact h4 b3 hb3 j hj⟩
theorem hn_ct {b : TB_} {rn : Nat → Int64} (k : Ct_ R I2 t b) (km : Cm_ R J2 t b) (ht : Tn2_ b rn) (hp : b.persons.toInt ≤ 7) (hd : b.dishes.toInt ≤ 6) (hf : ∀ j, j < 13 → g j = rn j) : Hn_ R I2 J2 t g := by
  obtain ⟨⟨h1, h2, -, -⟩, -⟩ := k
  unfold Hn_
  rw [h1, h2]
  exact ⟨⟨hp, hd⟩, fun q hq j hj => by rw [km.1 q hq j (by omega), hf j (by omega)]; exact ht.1 j hj, fun q hq j hj => by rw [km.2 q hq j (by omega), hf (7 + j) (by omega)]; exact ht.2 j hj⟩
theorem hn_al (W9 : ∀ a ∈ LX, Shp LX κ ln R ow a) (ht : t ∈ LX) (hk : κ t = 8) (e : ∀ a ∈ LX, I3 a = I2 a) (eJ : ∀ a ∈ LX, J3 a = J2 a) (hf : ∀ j, j < 13 → g j = f j) (H : Hn_ R I2 J2 t f) : Hn_ R I3 J3 t g :=
  hn_cg ⟨fun j _ _ => by rw [e t ht], fun q hq j => by rw [e q (kt_row W9 ht hk hq).1]⟩ (fun q hq j => by rw [eJ q (kn_row W9 ht hk hq).1]) hf H
theorem n2_ex (W9 : ∀ a ∈ LX, Shp LX κ ln R ow a) (ht : t ∈ LX) (hk : κ t = 8) : (∃ b, R t 0 = some b) ∧ ∃ b, R t 3 = some b := by
  obtain ⟨b, h1, -⟩ := shp_a (W9 t ht) hk 0 15 7 rfl (by decide)
  obtain ⟨b3, h3, -⟩ := shp_a (W9 t ht) hk 3 15 6 rfl (by decide)
  exact ⟨⟨b, h1⟩, ⟨b3, h3⟩⟩
theorem kn_of (h : Kn_ LX κ R J J2 ts) (ht : t ∈ LX) (hk : κ t = 8) (hn : t ∉ ts) : ∀ q, (R t 0 = some q ∨ R t 3 = some q) → ∀ j, J2 q j = J q j := fun q hq j => h t ht hk hn q hq j
/-- the class's object alone -/
theorem ln_x (H : Lv_ L LX LM κ ln R ow x mm oo tp) (O : Lo_ LX LM κ R ow x mm th trd tA tb0 tb1 tt0 tt1 rnw rkp rkt) (P : Lpn_ LM κ R ow mm rnm rkn) (h : Ln_ R th tt0 tt1 rkp rnm rkn I J) (k : Kt_ LX κ R I I2 ts) (kn : Kn_ LX κ R J J2 ts) (n0 : th ∉ ts) (n1 : tt0 ∉ ts) (n2 : tt1 ∉ ts) (e1 : ∀ a ∈ LX, I3 a = I2 a) (e2 : ∀ a, a ∉ LX → I3 a = I a) (f1 : ∀ a ∈ LX, J3 a = J2 a) (f2 : ∀ a, a ∉ LX → J3 a = J a) : Ln_ R th tt0 tt1 rkp rnm rkn I3 J3 := by
  obtain ⟨⟨-, o1, o2⟩, -, -, -, ⟨-, o7, o8⟩, ⟨-, o9, oa⟩, -, -, -, -, ⟨-, od, -⟩⟩ := O
  obtain ⟨⟨-, p1, -⟩, ⟨-, p2, -⟩⟩ := P
  have hd := H.2.2.2.2.1
  have Wx := H.2.2.2.2.2.1
  obtain ⟨h1, h3, h5⟩ := h
  unfold Ln_
  rw [e2 _ (hd _ od), f2 _ (hd _ p1), f2 _ (hd _ p2)]
  exact ⟨hn_al Wx o1 o2 e1 f1 (fun _ _ => rfl) (hn_cg (kc_of k o1 o2 n0) (kn_of kn o1 o2 n0) (fun _ _ => rfl) h1), fun q => hn_al Wx o7 o8 e1 f1 (fun _ _ => rfl) (hn_cg (kc_of k o7 o8 n1) (kn_of kn o7 o8 n1) (fun _ _ => rfl) (h3 q)), fun q => hn_al Wx o9 oa e1 f1 (fun _ _ => rfl) (hn_cg (kc_of k o9 oa n2) (kn_of kn o9 oa n2) (fun _ _ => rfl) (h5 q))⟩
theorem ln_xf (H : Lv_ L LX LM κ ln R ow x mm oo tp) (O : Lo_ LX LM κ R ow x mm th trd tA tb0 tb1 tt0 tt1 rnw rkp rkt) (P : Lpn_ LM κ R ow mm rnm rkn) (h : Ln_ R th tt0 tt1 rkp rnm rkn I J) (hF : Fq LX κ ow T I I2) (hT : 805 ∉ T ∧ 806 ∉ T ∧ 807 ∉ T ∧ 808 ∉ T ∧ 58200 ∉ T) (hG : Fq LX κ ow T2 J J2) (hT2 : 58000 ∉ T2 ∧ 58300 ∉ T2) (e1 : ∀ a ∈ LX, I3 a = I2 a) (e2 : ∀ a, a ∉ LX → I3 a = I a) (f1 : ∀ a ∈ LX, J3 a = J2 a) (f2 : ∀ a, a ∉ LX → J3 a = J a) : Ln_ R th tt0 tt1 rkp rnm rkn I3 J3 :=
  ln_x (ts := []) H O P h (kt_fq H.2.2.2.2.2.1 kt_rf hF hT) (kn_fq H.2.2.2.2.2.1 kn_rf hG hT2) List.not_mem_nil List.not_mem_nil List.not_mem_nil e1 e2 f1 f2
theorem ln_xp (H : Lv_ L LX LM κ ln R ow x mm oo tp) (O : Lo_ LX LM κ R ow x mm th trd tA tb0 tb1 tt0 tt1 rnw rkp rkt) (P : Lpn_ LM κ R ow mm rnm rkn) (h : Ln_ R th tt0 tt1 rkp rnm rkn I J) (hp : I = I2) (hq : J = J2) (e1 : ∀ a ∈ LX, I3 a = I2 a) (e2 : ∀ a, a ∉ LX → I3 a = I a) (f1 : ∀ a ∈ LX, J3 a = J2 a) (f2 : ∀ a, a ∉ LX → J3 a = J a) : Ln_ R th tt0 tt1 rkp rnm rkn I3 J3 :=
  ln_xf (T := []) (T2 := []) (I2 := I2) (J2 := J2) H O P h (fun _ _ _ _ => by rw [hp]) (by decide) (fun _ _ _ _ => by rw [hq]) (by decide) e1 e2 f1 f2
/-- both: tables as told, the reference's rows as told -/
theorem ln_two (H : Lv_ L LX LM κ ln R ow x mm oo tp) (O : Lo_ LX LM κ R ow x mm th trd tA tb0 tb1 tt0 tt1 rnw rkp rkt) (P : Lpn_ LM κ R ow mm rnm rkn) (e1 : ∀ a ∈ LX, Ib1 a = Ia1 a) (e3 : ∀ a ∈ LM, Ib2 a = Ia2 a) (e4 : ∀ a, a ∉ LM → Ib2 a = Ib1 a) (f1 : ∀ a ∈ LX, Jb1 a = Ja1 a) (f3 : ∀ a ∈ LM, Jb2 a = Ja2 a) (f4 : ∀ a, a ∉ LM → Jb2 a = Jb1 a)
    (p1 : Hn_ R Ia1 Ja1 th (Ja2 rnm)) (p3 : ¬ Ia2 rkp 0 = 0 → Hn_ R Ia1 Ja1 tt0 (Ja2 rkn)) (p5 : ¬ Ia2 rkp 1 = 0 → Hn_ R Ia1 Ja1 tt1 (fun j => Ja2 rkn (13 + j))) : Ln_ R th tt0 tt1 rkp rnm rkn Ib2 Jb2 := by
  obtain ⟨⟨-, o1, o2⟩, -, -, -, ⟨-, o7, o8⟩, ⟨-, o9, oa⟩, -, -, -, -, ⟨-, od, -⟩⟩ := O
  obtain ⟨⟨-, q1, -⟩, ⟨-, q2, -⟩⟩ := P
  have hd : ∀ a ∈ LX, a ∉ LM := fun a ha q => H.2.2.2.2.1 a q ha
  have Wx := H.2.2.2.2.2.1
  have ex : ∀ a ∈ LX, Ib2 a = Ia1 a := fun a ha => (e4 a (hd a ha)).trans (e1 a ha)
  have fx : ∀ a ∈ LX, Jb2 a = Ja1 a := fun a ha => (f4 a (hd a ha)).trans (f1 a ha)
  unfold Ln_
  rw [e3 _ od, f3 _ q1, f3 _ q2]
  exact ⟨hn_al Wx o1 o2 ex fx (fun _ _ => rfl) p1, fun q => hn_al Wx o7 o8 ex fx (fun _ _ => rfl) (p3 q), fun q => hn_al Wx o9 oa ex fx (fun _ _ => rfl) (p5 q)⟩
theorem rj_m (hG : Fq LM κ ow T J J2) {r : Nat} (hr : ro_ κ ow t = r) (hr2 : 13 ≤ r) (ht : t ∈ LM) (hT : r * 100 ∉ T) : ∀ j, J2 t j = J t j := fun j => hG t ht j (by rw [hr, tg_a hr2]; exact hT)
theorem kc_rf : Kc_ R I I t := ⟨fun _ _ _ => rfl, fun _ _ _ => rfl⟩
/-- the reference alone -/
theorem ln_mg (H : Lv_ L LX LM κ ln R ow x mm oo tp) (O : Lo_ LX LM κ R ow x mm th trd tA tb0 tb1 tt0 tt1 rnw rkp rkt) (P : Lpn_ LM κ R ow mm rnm rkn) (h : Ln_ R th tt0 tt1 rkp rnm rkn I J) (hk : ∀ j, I2 rkp j = I rkp j) (h1 : ∀ j, J2 rnm j = J rnm j) (h2 : ∀ j, J2 rkn j = J rkn j) (e1 : ∀ a ∈ LM, I3 a = I2 a) (e2 : ∀ a, a ∉ LM → I3 a = I a) (f1 : ∀ a ∈ LM, J3 a = J2 a) (f2 : ∀ a, a ∉ LM → J3 a = J a) : Ln_ R th tt0 tt1 rkp rnm rkn I3 J3 := by
  obtain ⟨g1, g3, g5⟩ := h
  refine ln_two (Ia1 := I) (Ib1 := I) (Ia2 := I2) (Ja1 := J) (Jb1 := J) (Ja2 := J2) H O P (fun _ _ => rfl) e1 e2 (fun _ _ => rfl) f1 f2 (hn_cg kc_rf (fun _ _ _ => rfl) (fun j _ => h1 j) g1) (fun q => hn_cg kc_rf (fun _ _ _ => rfl) (fun j _ => h2 j) (g3 (by rw [← hk 0]; exact q))) (fun q => hn_cg kc_rf (fun _ _ _ => rfl) (fun j _ => h2 (13 + j)) (g5 (by rw [← hk 1]; exact q)))
theorem ln_m (H : Lv_ L LX LM κ ln R ow x mm oo tp) (O : Lo_ LX LM κ R ow x mm th trd tA tb0 tb1 tt0 tt1 rnw rkp rkt) (P : Lpn_ LM κ R ow mm rnm rkn) (h : Ln_ R th tt0 tt1 rkp rnm rkn I J) (hF : Fq LM κ ow T I I2) (hT : 842 * 100 ∉ T) (hG : Fq LM κ ow T2 J J2) (hT2 : 839 * 100 ∉ T2 ∧ 841 * 100 ∉ T2) (e1 : ∀ a ∈ LM, I3 a = I2 a) (e2 : ∀ a, a ∉ LM → I3 a = I a) (f1 : ∀ a ∈ LM, J3 a = J2 a) (f2 : ∀ a, a ∉ LM → J3 a = J a) : Ln_ R th tt0 tt1 rkp rnm rkn I3 J3 :=
  ln_mg H O P h (rw_m hF O.2.2.2.2.2.2.2.2.2.2.2.2 (by decide) O.2.2.2.2.2.2.2.2.2.2.2.1 hT) (rj_m hG P.1.2.2 (by decide) P.1.2.1 hT2.1) (rj_m hG P.2.2.2 (by decide) P.2.2.1 hT2.2) e1 e2 f1 f2
theorem ln_mp (H : Lv_ L LX LM κ ln R ow x mm oo tp) (O : Lo_ LX LM κ R ow x mm th trd tA tb0 tb1 tt0 tt1 rnw rkp rkt) (P : Lpn_ LM κ R ow mm rnm rkn) (h : Ln_ R th tt0 tt1 rkp rnm rkn I J) (hp : I = I2) (hq : J = J2) (e1 : ∀ a ∈ LM, I3 a = I2 a) (e2 : ∀ a, a ∉ LM → I3 a = I a) (f1 : ∀ a ∈ LM, J3 a = J2 a) (f2 : ∀ a, a ∉ LM → J3 a = J a) : Ln_ R th tt0 tt1 rkp rnm rkn I3 J3 :=
  ln_mg (I2 := I2) (J2 := J2) H O P h (fun _ => by rw [hp]) (fun _ => by rw [hq]) (fun _ => by rw [hq]) e1 e2 f1 f2
/-- the row out -/
theorem ln_p (H : Lv_ L LX LM κ ln R ow x mm oo tp) (O : Lo_ LX LM κ R ow x mm th trd tA tb0 tb1 tt0 tt1 rnw rkp rkt) (P : Lpn_ LM κ R ow mm rnm rkn) (h : Ln_ R th tt0 tt1 rkp rnm rkn I J) (f : ∀ a, a ≠ oo → J3 a = J a) : Ln_ R th tt0 tt1 rkp rnm rkn I J3 := by
  obtain ⟨⟨-, o1, o2⟩, -, -, -, ⟨-, o7, o8⟩, ⟨-, o9, oa⟩, -, -, -, -, -⟩ := O
  obtain ⟨⟨-, q1, -⟩, ⟨-, q2, -⟩⟩ := P
  have Wx := H.2.2.2.2.2.1
  have hd := H.2.2.2.2.1
  have oL := H.2.2.2.2.2.2.2.2.2.1.1
  have on := H.2.2.2.2.2.2.2.2.2.1.2.2
  have nm : ∀ a ∈ LM, a ≠ oo := fun a ha e => hd a ha (by rw [e]; exact oL)
  have nt : ∀ t ∈ LX, κ t = 8 → ∀ q, (R t 0 = some q ∨ R t 3 = some q) → ∀ j, J3 q j = J q j := fun t ht hk q hq j => by
    rw [f q (fun e => ?_)]
    rcases hq with hq | hq
    · obtain ⟨b, h1, -, -, h4, -⟩ := shp_a (Wx t ht) hk 0 15 7 rfl (by decide)
      rw [hq] at h1; cases h1
      rw [e, on] at h4; exact absurd h4 (by decide)
    · obtain ⟨b, h1, -, -, h4, -⟩ := shp_a (Wx t ht) hk 3 15 6 rfl (by decide)
      rw [hq] at h1; cases h1
      rw [e, on] at h4; exact absurd h4 (by decide)
  obtain ⟨g1, g3, g5⟩ := h
  unfold Ln_
  rw [f _ (nm _ q1), f _ (nm _ q2)]
  exact ⟨hn_cg kc_rf (nt _ o1 o2) (fun _ _ => rfl) g1, fun q => hn_cg kc_rf (nt _ o7 o8) (fun _ _ => rfl) (g3 q), fun q => hn_cg kc_rf (nt _ o9 oa) (fun _ _ => rfl) (g5 q)⟩
theorem ln_table {bb : TB_} {cc : CP_} {xx : XP_} (H : Lv_ L LX LM κ ln R ow x mm oo tp) (O : Lo_ LX LM κ R ow x mm th trd tA tb0 tb1 tt0 tt1 rnw rkp rkt) (P : Lpn_ LM κ R ow mm rnm rkn) (hw : Lw_ LX LM κ R ow mm tp I c c) (hb : Lb_ R mm tp I J c) (h : Ln_ R th tt0 tt1 rkp rnm rkn I J)
    (k1 : Kt_ LX κ R I Ia1 [rr_ R x 1, rr_ R (rr_ R x 5) 0]) (n1 : Kn_ LX κ R J Ja1 [rr_ R x 1, rr_ R (rr_ R x 5) 0]) (k2 : (∀ b, fTableB (TPf R I J (rr_ R x 0)) bb cc xx = some b → ∀ h, R x 1 = some h → Ct_ R Ia1 h b) ∧ (fTableB (TPf R I J (rr_ R x 0)) bb cc xx = none → Kt_ LX κ R I Ia1 [rr_ R (rr_ R x 5) 0])) (n2 : (∀ b, fTableB (TPf R I J (rr_ R x 0)) bb cc xx = some b → ∀ h, R x 1 = some h → Cm_ R Ja1 h b) ∧ (fTableB (TPf R I J (rr_ R x 0)) bb cc xx = none → Kn_ LX κ R J Ja1 [rr_ R (rr_ R x 5) 0]))
    (e1 : ∀ a ∈ LX, Ib1 a = Ia1 a) (e2 : ∀ a, a ∉ LX → Ib1 a = I a) (f1 : ∀ a ∈ LX, Jb1 a = Ja1 a) (f2 : ∀ a, a ∉ LX → Jb1 a = J a) (F2 : Fq LM κ ow T2 Ib1 Ia2) (hT2 : 842 * 100 ∉ T2) (G2 : Fq LM κ ow T3 Jb1 Ja2) (hT3 : 841 * 100 ∉ T3)
    (k3 : (mTableN (MTf R Ib1 Jb1 mm) (NRf R Ib1 Jb1 mm) = none ∧ Rj_ R mm Jb1 Ja2) ∨ Ny_ R mm Ja2 (mTableN (MTf R Ib1 Jb1 mm) (NRf R Ib1 Jb1 mm))) (e3 : ∀ a ∈ LM, Ib2 a = Ia2 a) (e4 : ∀ a, a ∉ LM → Ib2 a = Ib1 a) (f3 : ∀ a ∈ LM, Jb2 a = Ja2 a) (f4 : ∀ a, a ∉ LM → Jb2 a = Jb1 a) : Ln_ R th tt0 tt1 rkp rnm rkn Ib2 Jb2 := by
  obtain ⟨b0, b9⟩ := lb_bs (Jb1 := Jb1) H hw hb e2
  rw [rr_s H.2.2.2.2.2.2.2.2.2.2.1] at k2 n2
  have O0 := O
  have P0 := P
  obtain ⟨⟨o0, o1, o2⟩, ord, -, -, ⟨-, o7, o8⟩, ⟨-, o9, oa⟩, ⟨m1, m2, m3⟩, ⟨m4, m5, m6⟩, -, -, ⟨-, od, og⟩⟩ := O
  obtain ⟨⟨p0, p1, p2⟩, ⟨p3, p4, p5⟩⟩ := P
  have hd := H.2.2.2.2.1
  rw [ord] at k1 k2 n1 n2
  rw [rr_s o0] at k1 n1
  have y1 : ∀ j, Ia2 rkp j = Ib1 rkp j := rw_m F2 og (by decide) od hT2
  have y2 : ∀ j, Ja2 rkn j = Jb1 rkn j := rj_m G2 p5 (by decide) p4 hT3
  rcases tableN_eq (b := bb) (c := cc) (x := xx) b0.1 b0.2.1 b9 b0.2.2 hb.2 with ⟨z1, z2⟩ | ⟨b2, rn, z1, z2, z3, z4, z5⟩
  · have q := ln_x H O0 P0 h (k2.2 z1) (n2.2 z1) (by rw [List.mem_singleton]; exact m4) (by rw [List.mem_singleton]; exact m5) (by rw [List.mem_singleton]; exact m6) e1 e2 f1 f2
    rcases k3 with ⟨-, k3⟩ | ⟨f9, k3, -⟩
    · exact ln_mg H O0 P0 q y1 (fun j => k3 rnm (Or.inl p0) j) y2 e3 e4 f3 f4
    · rw [z2] at k3; cases k3
  · rcases k3 with ⟨k3, -⟩ | ⟨f9, k3, k4⟩
    · rw [z2] at k3; cases k3
    · rw [z2] at k3; cases k3
      obtain ⟨g1, g3, g5⟩ := h
      have nn : ∀ {t : Nat}, th ≠ t → t ≠ trd → t ∉ [th, trd] := fun a b q => by
        rcases List.mem_cons.mp q with q | q
        · exact a q.symm
        · exact b (List.mem_singleton.mp q)
      have x1 : ∀ j, Ia2 rkp j = I rkp j := fun j => (y1 j).trans (by rw [e2 _ (hd _ od)])
      have x2 : ∀ j, Ja2 rkn j = J rkn j := fun j => (y2 j).trans (by rw [f2 _ (hd _ p4)])
      exact ln_two H O0 P0 e1 e3 e4 f1 f3 f4 (hn_ct (k2.1 b2 z1 th o0) (n2.1 b2 z1 th o0) z3 z4 z5 (fun j hj => k4 rnm p0 j hj)) (fun q => hn_cg (kc_of k1 o7 o8 (nn m1 m5)) (kn_of n1 o7 o8 (nn m1 m5)) (fun j _ => x2 j) (g3 (by rw [← x1 0]; exact q))) (fun q => hn_cg (kc_of k1 o9 oa (nn m2 m6)) (kn_of n1 o9 oa (nn m2 m6)) (fun j _ => x2 (13 + j)) (g5 (by rw [← x1 1]; exact q)))
theorem ln_image (H : Lv_ L LX LM κ ln R ow x mm oo tp) (O : Lo_ LX LM κ R ow x mm th trd tA tb0 tb1 tt0 tt1 rnw rkp rkt) (P : Lpn_ LM κ R ow mm rnm rkn) (h : Ln_ R th tt0 tt1 rkp rnm rkn I J)
    (k1 : Kt_ LX κ R I Ia1 [rr_ R (rr_ R (rr_ R x 12) n.toNatClampNeg) 0]) (n1 : Kn_ LX κ R J Ja1 [rr_ R (rr_ R (rr_ R x 12) n.toNatClampNeg) 0]) (k3 : (n = 0 ∨ n = 1 → ∀ A b t h, R x 12 = some A → R A n.toNatClampNeg = some b → R b 0 = some t → R x 1 = some h → Sc_ R I Ia1 t h) ∧ (¬ n = 0 ∧ ¬ n = 1 → Kt_ LX κ R I Ia1 [])) (n3 : (n = 0 ∨ n = 1 → ∀ A b t h, R x 12 = some A → R A n.toNatClampNeg = some b → R b 0 = some t → R x 1 = some h → Sn_ R J Ja1 t h) ∧ (¬ n = 0 ∧ ¬ n = 1 → Kn_ LX κ R J Ja1 []))
    (e1 : ∀ a ∈ LX, Ib1 a = Ia1 a) (e2 : ∀ a, a ∉ LX → Ib1 a = I a) (f1 : ∀ a ∈ LX, Jb1 a = Ja1 a) (f2 : ∀ a, a ∉ LX → Jb1 a = J a)
    (k4 : ∀ kp, R mm 22 = some kp → Tm_ n (Ib1 kp 0) (Ib1 kp 1) (Ia2 kp 0) (Ia2 kp 1)) (k5 : (n = 0 ∨ n = 1 → Kj_ R mm Jb1 Ja2 n.toNatClampNeg 13) ∧ (¬ n = 0 ∧ ¬ n = 1 → Rj_ R mm Jb1 Ja2)) (e3 : ∀ a ∈ LM, Ib2 a = Ia2 a) (e4 : ∀ a, a ∉ LM → Ib2 a = Ib1 a) (f3 : ∀ a ∈ LM, Jb2 a = Ja2 a) (f4 : ∀ a, a ∉ LM → Jb2 a = Jb1 a) : Ln_ R th tt0 tt1 rkp rnm rkn Ib2 Jb2 := by
  have O0 := O
  have P0 := P
  obtain ⟨⟨o0, o1, o2⟩, -, ⟨a0, a1, a2⟩, -, ⟨a3, o7, o8⟩, ⟨a4, o9, oa⟩, ⟨m1, m2, m3⟩, -, -, -, ⟨oj, od, og⟩⟩ := O
  obtain ⟨⟨p0, p1, p2⟩, ⟨p3, p4, p5⟩⟩ := P
  have hd := H.2.2.2.2.1
  have Wx := H.2.2.2.2.2.1
  have m9 := k4 rkp oj
  rw [e2 _ (hd _ od)] at m9
  obtain ⟨g1, g3, g5⟩ := h
  rw [rr_s a0] at k1 n1
  have c0 : (0 : Int32).toNatClampNeg = 0 := by decide
  have c1 : (1 : Int32).toNatClampNeg = 1 := by decide
  have jm : Jb1 rnm = J rnm := f2 _ (hd _ p1)
  have jk : Jb1 rkn = J rkn := f2 _ (hd _ p4)
  rcases m9 with ⟨z1, z2, z3⟩ | ⟨z1, z2, z3⟩ | ⟨z1, z2, z3, z4⟩
  · subst z1
    rw [c0, rr_s a1, rr_s a3] at k1 n1
    have kj := k5.1 (Or.inl rfl) rnm rkn p0 p3
    rw [c0, jm, jk] at kj
    have sc := k3.1 (Or.inl rfl) tA tb0 tt0 th a0 (by rw [c0]; exact a1) a3 o0
    have sn := n3.1 (Or.inl rfl) tA tb0 tt0 th a0 (by rw [c0]; exact a1) a3 o0
    refine ln_two H O0 P0 e1 e3 e4 f1 f3 f4 (hn_cg (kc_of k1 o1 o2 (by rw [List.mem_singleton]; exact m1)) (kn_of n1 o1 o2 (by rw [List.mem_singleton]; exact m1)) (fun j _ => kj.2.2 j) g1) (fun _ => hn_sc sc sn (n2_ex Wx o1 o2) (fun j hj => ?_) g1) (fun q => hn_cg (kc_of k1 o9 oa (by rw [List.mem_singleton]; exact fun e => m3 e.symm)) (kn_of n1 o9 oa (by rw [List.mem_singleton]; exact fun e => m3 e.symm)) (fun j hj => kj.2.1 (13 + j) (Or.inr (by omega))) (g5 (by rw [← z3]; exact q)))
    have := kj.1 j hj
    rw [Nat.mul_zero, Nat.zero_add] at this
    exact this
  · subst z1
    rw [c1, rr_s a2, rr_s a4] at k1 n1
    have kj := k5.1 (Or.inr rfl) rnm rkn p0 p3
    rw [c1, jm, jk] at kj
    have sc := k3.1 (Or.inr rfl) tA tb1 tt1 th a0 (by rw [c1]; exact a2) a4 o0
    have sn := n3.1 (Or.inr rfl) tA tb1 tt1 th a0 (by rw [c1]; exact a2) a4 o0
    refine ln_two H O0 P0 e1 e3 e4 f1 f3 f4 (hn_cg (kc_of k1 o1 o2 (by rw [List.mem_singleton]; exact m2)) (kn_of n1 o1 o2 (by rw [List.mem_singleton]; exact m2)) (fun j _ => kj.2.2 j) g1) (fun q => hn_cg (kc_of k1 o7 o8 (by rw [List.mem_singleton]; exact m3)) (kn_of n1 o7 o8 (by rw [List.mem_singleton]; exact m3)) (fun j hj => kj.2.1 j (Or.inl (by omega))) (g3 (by rw [← z2]; exact q))) (fun _ => hn_sc sc sn (n2_ex Wx o1 o2) (fun j hj => ?_) g1)
    have := kj.1 j hj
    rw [Nat.mul_one] at this
    exact this
  · have kx := k3.2 ⟨z1, z2⟩
    have nx := n3.2 ⟨z1, z2⟩
    have rj := k5.2 ⟨z1, z2⟩
    have y0 : ∀ j, Ja2 rnm j = J rnm j := fun j => (rj rnm (Or.inl p0) j).trans (by rw [jm])
    have y2 : ∀ j, Ja2 rkn j = J rkn j := fun j => (rj rkn (Or.inr p3) j).trans (by rw [jk])
    exact ln_two H O0 P0 e1 e3 e4 f1 f3 f4 (hn_cg (kc_of kx o1 o2 List.not_mem_nil) (kn_of nx o1 o2 List.not_mem_nil) (fun j _ => y0 j) g1) (fun q => hn_cg (kc_of kx o7 o8 List.not_mem_nil) (kn_of nx o7 o8 List.not_mem_nil) (fun j _ => y2 j) (g3 (by rw [← z3]; exact q))) (fun q => hn_cg (kc_of kx o9 oa List.not_mem_nil) (kn_of nx o9 oa List.not_mem_nil) (fun j _ => y2 (13 + j)) (g5 (by rw [← z4]; exact q)))
theorem ln_restore (H : Lv_ L LX LM κ ln R ow x mm oo tp) (O : Lo_ LX LM κ R ow x mm th trd tA tb0 tb1 tt0 tt1 rnw rkp rkt) (P : Lpn_ LM κ R ow mm rnm rkn) (ht : Lt_ R th tb0 tb1 tt0 tt1 rnw rkp rkt I) (h : Ln_ R th tt0 tt1 rkp rnm rkn I J)
    (k1 : Kt_ LX κ R I Ia1 [rr_ R x 1]) (n1 : Kn_ LX κ R J Ja1 [rr_ R x 1]) (k2 : ∀ A b0 b1, R x 12 = some A → R A 0 = some b0 → R A 1 = some b1 → Tq_ n (I b0 3) (I b1 3) r1) (k3 : (r1 = 1 → ∀ A b t h, R x 12 = some A → R A n.toNatClampNeg = some b → R b 0 = some t → R x 1 = some h → Sc_ R I Ia1 h t) ∧ (¬ r1 = 1 → Kt_ LX κ R I Ia1 [])) (n3 : (r1 = 1 → ∀ A b t h, R x 12 = some A → R A n.toNatClampNeg = some b → R b 0 = some t → R x 1 = some h → Sn_ R J Ja1 h t) ∧ (¬ r1 = 1 → Kn_ LX κ R J Ja1 []))
    (e1 : ∀ a ∈ LX, Ib1 a = Ia1 a) (e2 : ∀ a, a ∉ LX → Ib1 a = I a) (f1 : ∀ a ∈ LX, Jb1 a = Ja1 a) (f2 : ∀ a, a ∉ LX → Jb1 a = J a) (F2 : Fq LM κ ow T2 Ib1 Ia2) (hT2 : 842 * 100 ∉ T2) (G2 : Fq LM κ ow T3 Jb1 Ja2) (hT3 : 841 * 100 ∉ T3)
    (k4 : ∀ kp, R mm 22 = some kp → Tq_ n (Ib1 kp 0) (Ib1 kp 1) r2) (k5 : (r2 = 1 → Kq_ R mm Jb1 Ja2 n.toNatClampNeg 13) ∧ (¬ r2 = 1 → Rj_ R mm Jb1 Ja2)) (e3 : ∀ a ∈ LM, Ib2 a = Ia2 a) (e4 : ∀ a, a ∉ LM → Ib2 a = Ib1 a) (f3 : ∀ a ∈ LM, Jb2 a = Ja2 a) (f4 : ∀ a, a ∉ LM → Jb2 a = Jb1 a) : Ln_ R th tt0 tt1 rkp rnm rkn Ib2 Jb2 := by
  have O0 := O
  have P0 := P
  obtain ⟨⟨o0, o1, o2⟩, -, ⟨a0, a1, a2⟩, -, ⟨a3, o7, o8⟩, ⟨a4, o9, oa⟩, ⟨m1, m2, m3⟩, -, -, -, ⟨oj, od, og⟩⟩ := O
  obtain ⟨⟨p0, p1, p2⟩, ⟨p3, p4, p5⟩⟩ := P
  have hd := H.2.2.2.2.1
  have Wx := H.2.2.2.2.2.1
  have q1 := k2 tA tb0 tb1 a0 a1 a2
  have q2 := k4 rkp oj
  rw [e2 _ (hd _ od)] at q2
  obtain ⟨-, ⟨t2, -⟩, ⟨t4, -⟩⟩ := ht
  rw [t2, t4] at q1
  have er : r1 = r2 := tq_1 q1 q2
  have y1 : ∀ j, Ia2 rkp j = Ib1 rkp j := rw_m F2 og (by decide) od hT2
  have y2 : ∀ j, Ja2 rkn j = Jb1 rkn j := rj_m G2 p5 (by decide) p4 hT3
  have h0 := h
  obtain ⟨g1, g3, g5⟩ := h
  by_cases hr : r2 = 1
  · have kq := k5.1 hr rnm rkn p0 p3
    rw [rr_s o0] at k1 n1
    have x1 : ∀ j, Ia2 rkp j = I rkp j := fun j => (y1 j).trans (by rw [e2 _ (hd _ od)])
    have x2 : ∀ j, Ja2 rkn j = J rkn j := fun j => (y2 j).trans (by rw [f2 _ (hd _ p4)])
    have c0 : (0 : Int32).toNatClampNeg = 0 := by decide
    have c1 : (1 : Int32).toNatClampNeg = 1 := by decide
    rw [f2 _ (hd _ p4)] at kq
    have pp : Hn_ R Ia1 Ja1 th (Ja2 rnm) := by
      rcases q2 with ⟨z1, z2⟩ | ⟨z1, z2⟩ | ⟨-, -, z2⟩
      · rcases z2 with ⟨-, z2⟩ | ⟨z2, -⟩
        · rw [hr] at z2; exact absurd z2 (by decide)
        · refine hn_sc (k3.1 (er.trans hr) tA tb0 tt0 th a0 (by rw [z1, c0]; exact a1) a3 o0) (n3.1 (er.trans hr) tA tb0 tt0 th a0 (by rw [z1, c0]; exact a1) a3 o0) (n2_ex Wx o7 o8) (fun j hj => ?_) (g3 z2)
          rw [kq.1 j hj, z1, c0, Nat.mul_zero, Nat.zero_add]
      · rcases z2 with ⟨-, z2⟩ | ⟨z2, -⟩
        · rw [hr] at z2; exact absurd z2 (by decide)
        · refine hn_sc (k3.1 (er.trans hr) tA tb1 tt1 th a0 (by rw [z1, c1]; exact a2) a4 o0) (n3.1 (er.trans hr) tA tb1 tt1 th a0 (by rw [z1, c1]; exact a2) a4 o0) (n2_ex Wx o9 oa) (fun j hj => ?_) (g5 z2)
          rw [kq.1 j hj, z1, c1, Nat.mul_one]
      · rw [hr] at z2; exact absurd z2 (by decide)
    exact ln_two H O0 P0 e1 e3 e4 f1 f3 f4 pp (fun q => hn_cg (kc_of k1 o7 o8 (by rw [List.mem_singleton]; exact fun e => m1 e.symm)) (kn_of n1 o7 o8 (by rw [List.mem_singleton]; exact fun e => m1 e.symm)) (fun j _ => x2 j) (g3 (by rw [← x1 0]; exact q))) (fun q => hn_cg (kc_of k1 o9 oa (by rw [List.mem_singleton]; exact fun e => m2 e.symm)) (kn_of n1 o9 oa (by rw [List.mem_singleton]; exact fun e => m2 e.symm)) (fun j _ => x2 (13 + j)) (g5 (by rw [← x1 1]; exact q)))
  · have q := ln_x H O0 P0 h0 (k3.2 (by rw [er]; exact hr)) (n3.2 (by rw [er]; exact hr)) List.not_mem_nil List.not_mem_nil List.not_mem_nil e1 e2 f1 f2
    exact ln_mg H O0 P0 q y1 (fun j => k5.2 hr rnm (Or.inl p0) j) y2 e3 e4 f3 f4
/-- the names that both know, at a call -/
theorem ln_nm2 (H : Lv_ L LX LM κ ln R ow x mm oo tp) (O : Lo_ LX LM κ R ow x mm th trd tA tb0 tb1 tt0 tt1 rnw rkp rkt) (P : Lpn_ LM κ R ow mm rnm rkn) (ht : Lt_ R th tb0 tb1 tt0 tt1 rnw rkp rkt I) (h : Ln_ R th tt0 tt1 rkp rnm rkn I J) (e2 : ∀ a, a ∉ LX → Ib1 a = I a) (f2 : ∀ a, a ∉ LX → Jb1 a = J a) : Nm2 (TBf R I J (rr_ R x 1)) (NVf R Ib1 Jb1 mm) (NWf R Ib1 Jb1 mm) := by
  obtain ⟨⟨o0, o1, o2⟩, -, -, -, -, -, -, -, ⟨oe, ob, -⟩, -, -⟩ := O
  obtain ⟨⟨p0, p1, p2⟩, -⟩ := P
  have hd := H.2.2.2.2.1
  have Wx := H.2.2.2.2.2.1
  obtain ⟨⟨⟨h1, h2, -, -⟩, -⟩, -⟩ := ht
  obtain ⟨⟨⟨g1, g2⟩, g3, g4⟩, -⟩ := h
  obtain ⟨⟨b0, hb0⟩, ⟨b3, hb3⟩⟩ := n2_ex Wx o1 o2
  rw [rr_s o0]
  refine ⟨g1, g2, ?_, ?_, fun j hj => ?_, fun j hj => ?_⟩
  · show Ib1 (rr_ R mm 14) 0 = I th 5
    rw [rr_s oe, e2 _ (hd _ ob)]; exact h1.symm
  · show Ib1 (rr_ R mm 14) 1 = I th 6
    rw [rr_s oe, e2 _ (hd _ ob)]; exact h2.symm
  · show Wd (J (rr_ R th 0) j) (Jb1 (rr_ R mm 19) j)
    rw [rr_s hb0, rr_s p0, f2 _ (hd _ p1)]; exact g3 b0 hb0 j hj
  · show Wd (J (rr_ R th 3) j) (Jb1 (rr_ R mm 19) (7 + j))
    rw [rr_s hb3, rr_s p0, f2 _ (hd _ p1)]; exact g4 b3 hb3 j hj
theorem ln_sen (H : Lv_ L LX LM κ ln R ow x mm oo tp) (O : Lo_ LX LM κ R ow x mm th trd tA tb0 tb1 tt0 tt1 rnw rkp rkt) (P : Lpn_ LM κ R ow mm rnm rkn) (hw : Lw_ LX LM κ R ow mm tp I c c) (hb : Lb_ R mm tp I J c) (ht : Lt_ R th tb0 tb1 tt0 tt1 rnw rkp rkt I) (h : Ln_ R th tt0 tt1 rkp rnm rkn I J) {ss : SP_} {qq : QT_} (k1 : r1 = fSent (TBf R I J (rr_ R x 1)) (TPf R I J (rr_ R x 0)) ss) (e2 : ∀ a, a ∉ LX → Ib1 a = I a) (f2 : ∀ a, a ∉ LX → Jb1 a = J a) (k2 : r2 = mSent (NVf R Ib1 Jb1 mm) (NWf R Ib1 Jb1 mm) (MTf R Ib1 Jb1 mm) (NRf R Ib1 Jb1 mm) qq) : r1 = r2 := by
  obtain ⟨b0, b9⟩ := lb_bs (Jb1 := Jb1) H hw hb e2
  rw [rr_s H.2.2.2.2.2.2.2.2.2.2.1] at k1
  rw [k1, k2]
  exact sen_all b0.1 b0.2.1 b9 b0.2.2 hb.2 (ln_nm2 H O P ht h e2 f2)
end LWN
/-- the FAULT is the same -/
def Lf_ (mm tp : Nat) (I : Nat → Nat → Int32) : Prop := I tp 11 = I mm 10
section LWF
variable {L LX LM : List Nat} {κ ln : Nat → Nat} {R : Nat → Nat → Option Nat} {ow : Nat → Nat × Nat} {x mm oo tp : Nat} {I I2 I3 Ia1 Ib1 Ia2 Ib2 : Nat → Nat → Int32} {J J2 J3 Ja1 Jb1 Ja2 Jb2 : Nat → Nat → Int64} {c r1 r2 n : Int32} {T T2 : List Nat} {th trd tA tb0 tb1 tt0 tt1 rnw rkp rkt rnm rkn : Nat}
theorem lf_x (H : Lv_ L LX LM κ ln R ow x mm oo tp) (h : Lf_ mm tp I) (hF : Fq LX κ ow T I I2) (hT : 10 * 100 + 11 ∉ T) (e1 : ∀ a ∈ LX, I3 a = I2 a) (e2 : ∀ a, a ∉ LX → I3 a = I a) : Lf_ mm tp I3 := by
  have htp := H.2.2.2.2.2.2.2.2.2.2.2.1
  have ktp := H.2.2.2.2.2.2.2.2.2.2.2.2
  unfold Lf_
  rw [e1 _ htp, e2 _ (H.2.2.2.2.1 _ H.2.2.2.2.2.2.2.2.1.1)]
  exact fq_at hF htp ktp (by decide) hT h
theorem lf_xp (H : Lv_ L LX LM κ ln R ow x mm oo tp) (h : Lf_ mm tp I) (hp : I = I2) (e1 : ∀ a ∈ LX, I3 a = I2 a) (e2 : ∀ a, a ∉ LX → I3 a = I a) : Lf_ mm tp I3 := lf_x (T := []) (I2 := I2) H h (fun _ _ _ _ => by rw [hp]) (by decide) e1 e2
theorem lf_m (H : Lv_ L LX LM κ ln R ow x mm oo tp) (h : Lf_ mm tp I) (hF : Fq LM κ ow T I I2) (hT : 12 * 100 + 10 ∉ T) (e1 : ∀ a ∈ LM, I3 a = I2 a) (e2 : ∀ a, a ∉ LM → I3 a = I a) : Lf_ mm tp I3 := by
  have htp := H.2.2.2.2.2.2.2.2.2.2.2.1
  have hm := H.2.2.2.2.2.2.2.2.1.1
  have km := H.2.2.2.2.2.2.2.2.1.2
  unfold Lf_
  rw [e1 _ hm, e2 _ (fun q => H.2.2.2.2.1 _ q htp)]
  exact h.trans (fq_at hF hm km (by decide) hT rfl).symm
theorem lf_mp (H : Lv_ L LX LM κ ln R ow x mm oo tp) (h : Lf_ mm tp I) (hp : I = I2) (e1 : ∀ a ∈ LM, I3 a = I2 a) (e2 : ∀ a, a ∉ LM → I3 a = I a) : Lf_ mm tp I3 := lf_m (T := []) (I2 := I2) H h (fun _ _ _ _ => by rw [hp]) (by decide) e1 e2
theorem lf_two (H : Lv_ L LX LM κ ln R ow x mm oo tp) (e1 : ∀ a ∈ LX, Ib1 a = Ia1 a) (e3 : ∀ a ∈ LM, Ib2 a = Ia2 a) (e4 : ∀ a, a ∉ LM → Ib2 a = Ib1 a) (h : Ia1 tp 11 = Ia2 mm 10) : Lf_ mm tp Ib2 := by
  have htp := H.2.2.2.2.2.2.2.2.2.2.2.1
  have hm := H.2.2.2.2.2.2.2.2.1.1
  unfold Lf_
  rw [e4 _ (fun q => H.2.2.2.2.1 _ q htp), e1 _ htp, e3 _ hm]; exact h
theorem lf_table {bb : TB_} {cc : CP_} {xx : XP_} (H : Lv_ L LX LM κ ln R ow x mm oo tp) (hw : Lw_ LX LM κ R ow mm tp I c c) (hb : Lb_ R mm tp I J c) (k1 : Ia1 (rr_ R x 0) 11 = fTableF (TPf R I J (rr_ R x 0)) bb cc xx) (e1 : ∀ a ∈ LX, Ib1 a = Ia1 a) (e2 : ∀ a, a ∉ LX → Ib1 a = I a) (k2 : Ia2 mm 10 = mTableF (MTf R Ib1 Jb1 mm) (NRf R Ib1 Jb1 mm)) (e3 : ∀ a ∈ LM, Ib2 a = Ia2 a) (e4 : ∀ a, a ∉ LM → Ib2 a = Ib1 a) : Lf_ mm tp Ib2 := by
  obtain ⟨b0, b9⟩ := lb_bs (Jb1 := Jb1) H hw hb e2
  rw [rr_s H.2.2.2.2.2.2.2.2.2.2.1] at k1
  exact lf_two H e1 e3 e4 (by rw [k1, k2]; exact tableF_eq b0.1 b0.2.1 b9 b0.2.2 hb.2)
theorem lf_sen {ss : SP_} {qq : QT_} (H : Lv_ L LX LM κ ln R ow x mm oo tp) (O : Lo_ LX LM κ R ow x mm th trd tA tb0 tb1 tt0 tt1 rnw rkp rkt) (P : Lpn_ LM κ R ow mm rnm rkn) (hw : Lw_ LX LM κ R ow mm tp I c c) (hb : Lb_ R mm tp I J c) (ht : Lt_ R th tb0 tb1 tt0 tt1 rnw rkp rkt I) (h : Ln_ R th tt0 tt1 rkp rnm rkn I J) (k1 : Ia1 (rr_ R x 0) 11 = fSentF (TBf R I J (rr_ R x 1)) (TPf R I J (rr_ R x 0)) ss) (e1 : ∀ a ∈ LX, Ib1 a = Ia1 a) (e2 : ∀ a, a ∉ LX → Ib1 a = I a) (f2 : ∀ a, a ∉ LX → Jb1 a = J a) (k2 : Ia2 mm 10 = mSentF (NVf R Ib1 Jb1 mm) (NWf R Ib1 Jb1 mm) (MTf R Ib1 Jb1 mm) (NRf R Ib1 Jb1 mm) qq) (e3 : ∀ a ∈ LM, Ib2 a = Ia2 a) (e4 : ∀ a, a ∉ LM → Ib2 a = Ib1 a) : Lf_ mm tp Ib2 := by
  obtain ⟨b0, b9⟩ := lb_bs (Jb1 := Jb1) H hw hb e2
  have nm := ln_nm2 H O P ht h e2 f2
  rw [rr_s H.2.2.2.2.2.2.2.2.2.2.1] at k1
  exact lf_two H e1 e3 e4 (by rw [k1, k2]; exact sentF_eq b0.1 b0.2.1 b9 b0.2.2 hb.2 nm)
theorem lf_book {bk : KP_} {yy : YT_} (H : Lv_ L LX LM κ ln R ow x mm oo tp) (O : Lo_ LX LM κ R ow x mm th trd tA tb0 tb1 tt0 tt1 rnw rkp rkt) (P : Lpn_ LM κ R ow mm rnm rkn) (hw : Lw_ LX LM κ R ow mm tp I c c) (hb : Lb_ R mm tp I J c) (ht : Lt_ R th tb0 tb1 tt0 tt1 rnw rkp rkt I) (h : Ln_ R th tt0 tt1 rkp rnm rkn I J) (hf : Lf_ mm tp I) (k1 : Ia1 (rr_ R x 0) 11 = fBookF n (TBf R I J (rr_ R x 1)) (TPf R I J (rr_ R x 0)) bk) (e1 : ∀ a ∈ LX, Ib1 a = Ia1 a) (e2 : ∀ a, a ∉ LX → Ib1 a = I a) (f2 : ∀ a, a ∉ LX → Jb1 a = J a) (k2 : Ia2 mm 10 = mBookF n (NVf R Ib1 Jb1 mm) (NWf R Ib1 Jb1 mm) yy (MTf R Ib1 Jb1 mm) (NRf R Ib1 Jb1 mm)) (e3 : ∀ a ∈ LM, Ib2 a = Ia2 a) (e4 : ∀ a, a ∉ LM → Ib2 a = Ib1 a) : Lf_ mm tp Ib2 := by
  obtain ⟨b0, b9⟩ := lb_bs (Jb1 := Jb1) H hw hb e2
  have nm := ln_nm2 H O P ht h e2 f2
  rw [rr_s H.2.2.2.2.2.2.2.2.2.2.1] at k1
  have ef : TP_.fault (TPf R I J tp) = NR_.mfault (NRf R Ib1 Jb1 mm) := by
    show I tp 11 = Ib1 mm 10
    rw [e2 _ (H.2.2.2.2.1 _ H.2.2.2.2.2.2.2.2.1.1)]; exact hf
  exact lf_two H e1 e3 e4 (by rw [k1, k2]; exact bookF_eq b0.1 b0.2.1 b9 b0.2.2 hb.2 nm ef)
theorem lf_fault (H : Lv_ L LX LM κ ln R ow x mm oo tp) (h : Lf_ mm tp I) (k1 : r1 = I (rr_ R x 0) 11) (e2 : ∀ a, a ∉ LX → Ib1 a = I a) (k2 : r2 = Ib1 mm 10) : r1 = r2 := by
  rw [k1, k2, rr_s H.2.2.2.2.2.2.2.2.2.2.1, e2 _ (H.2.2.2.2.1 _ H.2.2.2.2.2.2.2.2.1.1)]; exact h
end LWF
theorem nI_a (i k : Nat) : nI i + nI k = nI (i + k) := (Int32.ofNat_add i k).symm
theorem xs_in {N i j : Nat} (hi : i + 6 ≤ N) (hj : j < 6) (hN : N ≤ 3072) : vp_in (nI (i + j)) N := vi_of (nI_clamp (by omega)) (nI_pos (by omega)) (by omega)
theorem xs_at_ {xs : Nat → Int32} {N i j : Nat} (hi : i + 6 ≤ N) (hj : j < 6) (hN : N ≤ 3072) : xs (nI (i + j)).toNatClampNeg = xs (i + j) := by rw [nI_clamp (by omega)]
theorem n6_lt {N i : Nat} (hN : N ≤ 3072) (hi : i ≤ 4000) (h : ¬ nI N - 6 < nI i) : i + 6 ≤ N := by
  have q := Int32.not_lt.mp h
  have q := Int32.le_iff_toInt_le.mp q
  rw [nI_toInt (by omega), i_sub (by rw [nI_toInt (by omega), show (6 : Int32).toInt = 6 from by decide]; omega) (by rw [nI_toInt (by omega), show (6 : Int32).toInt = 6 from by decide]; omega), nI_toInt (by omega), show (6 : Int32).toInt = 6 from by decide] at q
  omega
section LW0
variable {L : List Nat} {κ ln : Nat → Nat} {R : Nat → Nat → Option Nat} {ow : Nat → Nat × Nat} {I : Nat → Nat → Int32}
theorem b0_I (r j : Nat) : (bI r j).1 ≤ 0 ∧ 0 ≤ (bI r j).2 := by
  unfold bI; split
  · unfold bO; split <;> exact ⟨by decide, by decide⟩
  · unfold bA; split <;> exact ⟨by decide, by decide⟩
theorem b0_rz (j : Nat) : (rz_ j).1 ≤ 0 ∧ 0 ≤ (rz_ j).2 := by
  unfold rz_; repeat' split
  all_goals exact ⟨by decide, by decide⟩
theorem b0_N (r j : Nat) : (bN r j).1 ≤ 0 ∧ 0 ≤ (bN r j).2 := by
  unfold bN; split
  · unfold nO; split <;> exact ⟨by decide, by decide⟩
  · unfold nA; split <;> first | exact z0_in _ | exact b0_rz _ | exact ⟨by decide, by decide⟩
theorem iv_0 (W9 : ∀ a ∈ L, Shp L κ ln R ow a) (F : ∀ a ∈ L, ∀ j, I a j = fv_ (κ a) j) : Iv L κ R ow I := by
  refine ⟨fun a ha j => ?_, fun s hs hk A N hA hN j h => ?_, fun x hx hk j hj => ?_⟩
  · rw [F a ha j]
    unfold fv_
    split
    · rename_i q
      rw [ro_o q.1 (by decide), q.2]
      exact ⟨by decide, by decide⟩
    · split
      · rename_i q
        rw [ro_o q.1 (by decide)]
        rcases q.2 with e | e <;> rw [e] <;> exact ⟨by decide, by decide⟩
      · split
        · rename_i q
          rw [ro_o q.1 (by decide)]
          rcases q.2 with e | e <;> rw [e] <;> exact ⟨by decide, by decide⟩
        · exact b0_I _ _
  · obtain ⟨b, h1, h2, h3, -⟩ := shp_a (W9 s hs) hk 0 14 40 rfl (by decide)
    rw [hA] at h1; cases h1
    rw [F A h2 j, h3] at h
    exact absurd h (by unfold fv_; rw [if_neg (by omega), if_neg (by omega), if_neg (by omega)]; decide)
  · rw [F x hx 4, hk] at hj
    exact absurd hj (by rw [show (fv_ 0 4).toInt = 0 from by decide]; omega)
theorem tr_0 {g : Nat → Int32} (h : ∀ j, g j = 0) : Tr g := fun k hk => by
  rw [h, h, h]
  exact ⟨fun q => absurd q (by decide), fun q => absurd q (by decide), fun q => absurd q (by decide)⟩
theorem gs_0 {h g : Nat → Int32} (h1 : ∀ j, h j = 0) (h2 : ∀ j, g j = 0) : Gs h g := ⟨fun p _ => by rw [h1, h2]; exact Int.le_refl _, fun d _ => by unfold wd_; rw [h2, h2, h2, h2, h2, h2, h2, h2]; decide⟩
theorem iw_0 (W9 : ∀ a ∈ L, Shp L κ ln R ow a) (h1 : ∀ x ∈ L, ∀ y ∈ L, κ x = 12 → κ y = 12 → x = y) (hk : ∀ a ∈ L, κ a = 12 ∨ (14 ≤ κ a ∧ κ a ≤ 16)) (F : ∀ a ∈ L, ∀ j, I a j = fv_ (κ a) j) : Iw L κ R ow I := by
  have z : ∀ a ∈ L, 14 ≤ κ a → κ a ≤ 16 → ∀ j, I a j = 0 := fun a ha q1 q2 j => by
    rw [F a ha j]; unfold fv_; rw [if_neg (by omega), if_neg (by omega), if_neg (by omega)]
  refine ⟨fun a ha j => ?_, h1, fun x hx hkx a s k nd rw h2 h3 h4 h5 h6 => ?_⟩
  · rcases hk a ha with q | q
    · rw [F a ha j, q, ro_o q (by decide)]
      unfold fv_
      rw [if_neg (by omega), if_neg (by omega)]
      split
      · rename_i e
        rcases e.2 with e | e <;> rw [e] <;> exact ⟨by decide, by decide⟩
      · exact b0_N _ _
    · rw [z a ha q.1 q.2 j]; exact b0_N _ _
  · obtain ⟨a', p1, p2, p3, -⟩ := shp_a (W9 x hx) hkx 14 14 389 rfl (by decide)
    rw [h2] at p1; cases p1
    obtain ⟨s', q1, q2, q3, -⟩ := shp_a (W9 x hx) hkx 17 14 600 rfl (by decide)
    rw [h3] at q1; cases q1
    obtain ⟨k', r1, r2, r3, -⟩ := shp_a (W9 x hx) hkx 16 14 778 rfl (by decide)
    rw [h4] at r1; cases r1
    obtain ⟨n', s1, s2, s3, -⟩ := shp_a (W9 x hx) hkx 46 14 240 rfl (by decide)
    rw [h5] at s1; cases s1
    have za := z a p2 (by omega) (by omega)
    have zs := z s q2 (by omega) (by omega)
    have zk := z k r2 (by omega) (by omega)
    have zn := z nd s2 (by omega) (by omega)
    have e44 : I x 44 = 0 := by rw [F x hx 44, hkx]; decide
    exact ⟨gs_0 za (fun _ => za _), fun j _ => gs_0 za (fun _ => zs _), fun q _ => gs_0 (fun _ => zk _) (fun _ => zk _), tr_0 (fun _ => za _), fun q _ => tr_0 (fun _ => zk _), tr_0 zn, fun j hj => absurd hj (by rw [e44, show (0 : Int32).toInt = 0 from by decide]; omega)⟩
/-- a pool of the reference alone: it and its rows -/
theorem lm_0 {Lm : List Nat} {mm : Nat} (hn : Lm.Nodup) (hm : mm ∈ Lm) (hk : κ mm = 12) (W : Shp Lm κ ln R ow mm) : ∃ LM : List Nat, (∀ a ∈ LM, a ∈ Lm) ∧ LM.Nodup ∧ mm ∈ LM ∧ (∀ a ∈ LM, Shp LM κ ln R ow a) ∧ (∀ x ∈ LM, ∀ y ∈ LM, κ x = 12 → κ y = 12 → x = y) ∧ (∀ a ∈ LM, κ a = 12 ∨ (14 ≤ κ a ∧ κ a ≤ 16)) := by
  classical
  let p : Nat → Prop := fun b => b = mm ∨ ∃ k, R mm k = some b ∧ 14 ≤ κ b ∧ κ b ≤ 16
  have hp : ∀ a, a ∈ Lm.filter (fun b => decide (p b)) ↔ a ∈ Lm ∧ p a := fun a => by rw [List.mem_filter, decide_eq_true_eq]
  have hu : ∀ a, p a → κ a = 12 → a = mm := fun a h q => h.elim id (fun ⟨k, h1, h2, h3⟩ => by omega)
  refine ⟨Lm.filter (fun b => decide (p b)), fun a h => ((hp a).mp h).1, hn.filter _, (hp mm).mpr ⟨hm, Or.inl rfl⟩, fun a h => ?_, fun x h y h2 q1 q2 => (hu x ((hp x).mp h).2 q1).trans (hu y ((hp y).mp h2).2 q2).symm, fun a h => ?_⟩
  · rcases ((hp a).mp h).2 with e | ⟨k, h1, h2, h3⟩
    · subst e
      refine ⟨fun k q hq h9 => ?_, fun q => by omega, fun q => by omega⟩
      obtain ⟨b, p1, p2, p3, p4⟩ := W.1 k q hq h9
      have hq2 : q.1 = 14 ∨ q.1 = 15 ∨ q.1 = 16 := by
        rw [hk] at hq
        have hm := List.mem_of_getElem? hq
        have : ∀ t ∈ rt_.getD 12 [], t.1 < 99 → t.1 = 14 ∨ t.1 = 15 ∨ t.1 = 16 := by decide
        exact this q hm h9
      exact ⟨b, p1, (hp b).mpr ⟨p2, Or.inr ⟨k, p1, by omega, by omega⟩⟩, p3, p4⟩
    · refine ⟨fun k q hq h9 => ?_, fun q => by omega, fun q => by omega⟩
      have : κ a = 14 ∨ κ a = 15 ∨ κ a = 16 := by omega
      rcases this with e | e | e <;> rw [e] at hq <;> exact absurd hq (by simp [rt_])
  · rcases ((hp a).mp h).2 with e | ⟨k, h1, h2, h3⟩
    · rw [e]; exact Or.inl hk
    · exact Or.inr ⟨h2, h3⟩
end LW0
