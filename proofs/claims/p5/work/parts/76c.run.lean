/-! a run of letters and digits, read by both -/
def Mx (m : MT_) (i : Int32) (w : Int64) (nu : Int32) : MT_ := MT_.w_to (MT_.w_number (MT_.w_word m w) nu) i
def RJ (f i le dg : Int32) (w : Int64) (nu : Int32) (w2 : Int64) (nu2 g lt : Int32) : Prop :=
  0 ≤ f.toInt ∧ f.toInt ≤ i.toInt ∧ 0 ≤ le.toInt ∧ 0 ≤ dg.toInt ∧ le.toInt + dg.toInt = i.toInt - f.toInt ∧
  ((lt = 1 ∧ ((dg.toInt = 0 ∧ g = 1) ∨ (0 < dg.toInt ∧ g = 0))) ∨ (lt = 0 ∧ ((le.toInt = 0 ∧ g = 1) ∨ (0 < le.toInt ∧ g = 0)))) ∧
  (dg.toInt = 0 → i.toInt - f.toInt ≤ 7 → ∃ ls : List Int32, (ls.length : Int) = i.toInt - f.toInt ∧ Lts ls ∧ w = p32 ls ∧ w2 = p27 ls) ∧
  (le.toInt = 0 → i.toInt - f.toInt ≤ 3 → nu = nu2 ∧ 0 ≤ nu.toInt ∧ (i.toInt - f.toInt ≤ 0 → nu.toInt ≤ 0) ∧ (i.toInt - f.toInt ≤ 1 → nu.toInt ≤ 9) ∧ (i.toInt - f.toInt ≤ 2 → nu.toInt ≤ 99) ∧ nu.toInt ≤ 999) ∧
  (f.toInt < i.toInt → (lt = 1 ∧ 0 < le.toInt) ∨ (lt = 0 ∧ 0 < dg.toInt))
theorem subI {i f : Int32} (h0 : 0 ≤ f.toInt) (h1 : f.toInt ≤ i.toInt) : (i - f).toInt = i.toInt - f.toInt := by
  have := Int32.toInt_lt i
  exact i_sub (by omega) (by omega)
theorem rj_let {f i le dg : Int32} {w : Int64} {nu : Int32} {w2 : Int64} {nu2 g lt c : Int32} (h : RJ f i le dg w nu w2 nu2 g lt) (hi : i.toInt < 940) (hc : 97 ≤ c.toInt ∧ c.toInt ≤ 122) (hf : i.toInt = f.toInt → isLc c = lt) :
    RJ f (i + 1) (le + 1) dg (wlt w c) nu (if 7 ≤ i - f then w2 else 27 * w2 + Int32.toInt64 c - 96) (if 3 ≤ i - f then nu2 else 10 * nu2 + c - 48) (if g = 0 then 0 else if isLc c = lt then 1 else 0) lt := by
  obtain ⟨h1, h2, h3, h4, h5, h6, h7, h8, h9⟩ := h
  have e1 := add1 (x := i) (by omega)
  have e2 := add1 (x := le) (by omega)
  have l1 : isLc c = 1 := by rw [lc_i, if_pos hc]
  refine ⟨h1, by omega, by omega, h4, by omega, ?_, ?_, ?_, fun _ => ?_⟩
  · rcases h6 with ⟨a, b⟩ | ⟨a, b⟩
    · refine Or.inl ⟨a, ?_⟩
      rcases b with ⟨b1, b2⟩ | ⟨b1, b2⟩
      · refine Or.inl ⟨b1, ?_⟩
        rw [b2, if_neg (by decide), l1, a, if_pos rfl]
      · refine Or.inr ⟨b1, ?_⟩
        rw [b2, if_pos rfl]
    · refine Or.inr ⟨a, Or.inr ⟨by omega, ?_⟩⟩
      rw [l1, a]
      by_cases q : g = 0
      · rw [if_pos q]
      · rw [if_neg q, if_neg (by decide)]
  · intro q1 q2
    obtain ⟨ls, a1, a2, a3, a4⟩ := h7 q1 (by omega)
    refine ⟨ls ++ [c], by rw [List.length_append, List.length_singleton]; omega, fun z hz => ?_, ?_, ?_⟩
    · rcases List.mem_append.mp hz with y | y
      · exact a2 z y
      · rw [List.mem_singleton.mp y]; exact hc
    · unfold p32 at a3 ⊢
      rw [List.foldl_append, List.foldl_cons, List.foldl_nil, ← a3]
    · rw [if_neg (fun y => by have := leI.mp y; rw [subI h1 h2, show (7 : Int32).toInt = 7 from by decide] at this; omega)]
      unfold p27 at a4 ⊢
      rw [List.foldl_append, List.foldl_cons, List.foldl_nil, ← a4]
      rfl
  · intro q; omega
  · by_cases z : i.toInt = f.toInt
    · exact Or.inl ⟨(hf z).symm.trans l1, by omega⟩
    · rcases h9 (by omega) with y | y
      · exact Or.inl ⟨y.1, by omega⟩
      · exact Or.inr y
theorem rj_dig {f i le dg : Int32} {w : Int64} {nu : Int32} {w2 : Int64} {nu2 g lt c : Int32} (h : RJ f i le dg w nu w2 nu2 g lt) (hi : i.toInt < 940) (hc : 48 ≤ c.toInt ∧ c.toInt ≤ 57) (hf : i.toInt = f.toInt → isLc c = lt) :
    RJ f (i + 1) le (dg + 1) w (nu * 10 + c - 48) (if 7 ≤ i - f then w2 else 27 * w2 + Int32.toInt64 c - 96) (if 3 ≤ i - f then nu2 else 10 * nu2 + c - 48) (if g = 0 then 0 else if isLc c = lt then 1 else 0) lt := by
  obtain ⟨h1, h2, h3, h4, h5, h6, h7, h8, h9⟩ := h
  have e1 := add1 (x := i) (by omega)
  have e2 := add1 (x := dg) (by omega)
  have l1 : isLc c = 0 := lc_0.mpr (by omega)
  refine ⟨h1, by omega, h3, by omega, by omega, ?_, ?_, ?_, fun _ => ?_⟩
  · rcases h6 with ⟨a, b⟩ | ⟨a, b⟩
    · refine Or.inl ⟨a, Or.inr ⟨by omega, ?_⟩⟩
      rw [l1, a]
      by_cases q : g = 0
      · rw [if_pos q]
      · rw [if_neg q, if_neg (by decide)]
    · refine Or.inr ⟨a, ?_⟩
      rcases b with ⟨b1, b2⟩ | ⟨b1, b2⟩
      · refine Or.inl ⟨b1, ?_⟩
        rw [b2, if_neg (by decide), l1, a, if_pos rfl]
      · refine Or.inr ⟨b1, ?_⟩
        rw [b2, if_pos rfl]
  · intro q; omega
  · intro q1 q2
    obtain ⟨a1, a2, a3, a4, a5, a6⟩ := h8 q1 (by omega)
    have n3 : ¬ (3 : Int32) ≤ i - f := fun y => by have := leI.mp y; rw [subI h1 h2, show (3 : Int32).toInt = 3 from by decide] at this; omega
    rw [if_neg n3, ← a1]
    have b : nu.toInt ≤ 99 := a5 (by omega)
    have t10 : (10 : Int32).toInt = 10 := by decide
    have t48 : (48 : Int32).toInt = 48 := by decide
    have m1 : (nu * 10).toInt = nu.toInt * 10 := by rw [i_mul (by rw [t10]; omega) (by rw [t10]; omega), t10]
    have m2 : (nu * 10 + c).toInt = nu.toInt * 10 + c.toInt := by rw [i_add (by rw [m1]; omega) (by rw [m1]; omega), m1]
    have m3 : (nu * 10 + c - 48).toInt = nu.toInt * 10 + c.toInt - 48 := by rw [i_sub (by rw [m2, t48]; omega) (by rw [m2, t48]; omega), m2, t48]
    refine ⟨by rw [Int32.mul_comm], by omega, fun q => by omega, fun q => ?_, fun q => ?_, by omega⟩
    · have := a3 (by omega); omega
    · have := a4 (by omega); omega
  · by_cases z : i.toInt = f.toInt
    · exact Or.inr ⟨(hf z).symm.trans l1, by omega⟩
    · rcases h9 (by omega) with y | y
      · exact Or.inl y
      · exact Or.inr ⟨y.1, by omega⟩
theorem mstep_x {m : MT_} {i : Int32} {w : Int64} {nu : Int32} : mStep (Mx m i w nu) = Mx m (i + 1) (if 7 ≤ i - m.frm then w else 27 * w + Int32.toInt64 (m.tp i.toNatClampNeg) - 96) (if 3 ≤ i - m.frm then nu else 10 * nu + m.tp i.toNatClampNeg - 48) := rfl
theorem mgood_x {m : MT_} {i g lt : Int32} {w : Int64} {nu : Int32} : mGood g lt (Mx m i w nu) = if g = 0 then 0 else if isLc (m.tp i.toNatClampNeg) = lt then 1 else 0 := rfl
theorem run_n {cb : Nat → Int32} {m : MT_} {f lt : Int32} (hn : m.size.toInt ≤ 940) (hB : ∀ j : Nat, (j : Int) < m.size.toInt → By_ (cb j) (m.tp j)) (hf : m.frm = f) (hlt : isLc (m.tp f.toNatClampNeg) = lt) :
    ∀ (k : Nat) (i le dg : Int32) (w : Int64) (nu : Int32) (w2 : Int64) (nu2 g : Int32), i.toInt + k = 941 → i.toInt ≤ m.size.toInt → RJ f i le dg w nu w2 nu2 g lt →
      ∃ (i3 le3 dg3 : Int32) (w3 : Int64) (nu3 : Int32) (w4 : Int64) (nu4 g4 : Int32), rqg cb m.size k i le dg w nu = (i3, le3, dg3, w3, nu3) ∧ mrung lt k g (Mx m i w2 nu2) = (g4, Mx m i3 w4 nu4) ∧ RJ f i3 le3 dg3 w3 nu3 w4 nu4 g4 lt ∧ i.toInt ≤ i3.toInt ∧ i3.toInt ≤ m.size.toInt ∧
        (i.toInt < m.size.toInt → ¬ (isLc (m.tp i.toNatClampNeg) = 0 ∧ isDc (m.tp i.toNatClampNeg) = 0) → i.toInt < i3.toInt) ∧ ((isLc (m.tp i.toNatClampNeg) = 0 ∧ isDc (m.tp i.toNatClampNeg) = 0) → i3 = i)
  | 0, i, le, dg, w, nu, w2, nu2, g, hk, hi, h => by omega
  | k + 1, i, le, dg, w, nu, w2, nu2, g, hk, hi, h => by
    have h0 : 0 ≤ i.toInt := Int.le_trans h.1 h.2.1
    have ta : mTapeAt (Mx m i w2 nu2).to (Mx m i w2 nu2) = if m.size ≤ i then 0 else m.tp i.toNatClampNeg := rfl
    by_cases q1 : m.size ≤ i
    · refine ⟨i, le, dg, w, nu, w2, nu2, g, ?_, ?_, h, Int.le_refl _, hi, fun y => by have := leI.mp q1; omega, fun _ => rfl⟩
      · unfold rqg; rw [if_pos q1]
      · unfold mrung; rw [ta, if_pos q1, if_pos (by decide), if_pos (by decide)]
    · have q2 : i.toInt < m.size.toInt := by rw [leI] at q1; omega
      have q3 : ¬ (940 : Int32) ≤ i := fun y => by have := leI.mp y; rw [show (940 : Int32).toInt = 940 from by decide] at this; omega
      have hb : By_ (cb i.toNatClampNeg) (m.tp i.toNatClampNeg) := hB _ (by rw [nnI]; omega)
      have ei := add1 (x := i) (by omega)
      by_cases q4 : isLc (m.tp i.toNatClampNeg) = 0
      · by_cases q5 : isDc (m.tp i.toNatClampNeg) = 0
        · refine ⟨i, le, dg, w, nu, w2, nu2, g, ?_, ?_, h, Int.le_refl _, hi, fun _ y => absurd ⟨q4, q5⟩ y, fun _ => rfl⟩
          · unfold rqg; rw [if_neg q1, if_neg q3, by_lc hb, if_pos q4, by_dc hb, if_pos q5]
          · unfold mrung; rw [ta, if_neg q1, if_pos q4, if_pos q5]
        · have ec := by_al hb (Or.inr q5)
          have hd : 48 ≤ (m.tp i.toNatClampNeg).toInt ∧ (m.tp i.toNatClampNeg).toInt ≤ 57 := by
            by_cases z : 48 ≤ (m.tp i.toNatClampNeg).toInt ∧ (m.tp i.toNatClampNeg).toInt ≤ 57
            · exact z
            · exact absurd (dc_0.mpr z) q5
          have hr := rj_dig (c := m.tp i.toNatClampNeg) h (by omega) hd (fun z => by rw [i_ext z]; exact hlt)
          obtain ⟨i3, le3, dg3, w3, nu3, w4, nu4, g4, a1, a2, a3, a4, a5, a6, a7⟩ := run_n hn hB hf hlt k (i + 1) _ _ _ _ _ _ _ (by omega) (by omega) hr
          refine ⟨i3, le3, dg3, w3, nu3, w4, nu4, g4, ?_, ?_, a3, by omega, a5, fun _ _ => by omega, fun y => absurd y.2 q5⟩
          · unfold rqg; rw [if_neg q1, if_neg q3, by_lc hb, if_pos q4, by_dc hb, if_neg q5, ec]; exact a1
          · unfold mrung; rw [ta, if_neg q1, if_pos q4, if_neg q5, mstep_x, mgood_x, hf]; exact a2
      · have ec := by_al hb (Or.inl q4)
        have hd : 97 ≤ (m.tp i.toNatClampNeg).toInt ∧ (m.tp i.toNatClampNeg).toInt ≤ 122 := by
          by_cases z : 97 ≤ (m.tp i.toNatClampNeg).toInt ∧ (m.tp i.toNatClampNeg).toInt ≤ 122
          · exact z
          · exact absurd (lc_0.mpr z) q4
        have hr := rj_let (c := m.tp i.toNatClampNeg) h (by omega) hd (fun z => by rw [i_ext z]; exact hlt)
        obtain ⟨i3, le3, dg3, w3, nu3, w4, nu4, g4, a1, a2, a3, a4, a5, a6, a7⟩ := run_n hn hB hf hlt k (i + 1) _ _ _ _ _ _ _ (by omega) (by omega) hr
        refine ⟨i3, le3, dg3, w3, nu3, w4, nu4, g4, ?_, ?_, a3, by omega, a5, fun _ _ => by omega, fun y => absurd y.1 q4⟩
        · unfold rqg; rw [if_neg q1, if_neg q3, by_lc hb, if_neg q4, ec]; exact a1
        · unfold mrung; rw [ta, if_neg q1, if_neg q4, mstep_x, mgood_x, hf]; exact a2
theorem sg_by {c m : Int32} (h : By_ c m) : (isSg c = 0 ∧ mSg m = 1) ∨ (¬ isSg c = 0 ∧ mSg m = 4 ∧ c = m) := by
  by_cases q : isSg c = 0
  · refine Or.inl ⟨q, ?_⟩
    have ne : ∀ k : Int32, ¬ isSg k = 0 → 0 ≤ k.toInt → k.toInt < 128 → ¬ m = k := fun k h1 h2 h3 e => h1 (by rw [← (by_eq h h2 h3).mpr e]; exact q)
    unfold mSg
    rw [if_neg (ne 59 (by decide) (by decide) (by decide)), if_neg (ne 60 (by decide) (by decide) (by decide)), if_neg (ne 61 (by decide) (by decide) (by decide)), if_neg (ne 62 (by decide) (by decide) (by decide)), if_neg (ne 40 (by decide) (by decide) (by decide)), if_neg (ne 41 (by decide) (by decide) (by decide))]
  · have e : c = m := by
      have := sg_t q
      by_cases z : m.toInt < 128
      · exact by_low h z
      · have := by_high h z; omega
    refine Or.inr ⟨q, ?_, e⟩
    subst e
    rcases sg_i q with z | z | z | z | z | z <;> rw [z] <;> decide
/-- the TOKEN that begins at f -/
theorem tk_step {s : TP_} {m : MT_} {f : Int32} (hn : m.size.toInt ≤ 940) (hl : s.len = m.size) (hB : ∀ j : Nat, (j : Int) < m.size.toInt → By_ (s.by_ j) (m.tp j)) (hw : Wk_ s.wd) (h0 : 0 ≤ f.toInt) (hf : f.toInt < m.size.toInt) (hto : m.to = f) (hfr : m.frm = f) :
    ∃ (c : Int32) (v : Int64) (i : Int32) (k : Int32) (nu sg : Int32) (w : Int64), fReadToken f s = (i, fAddToken c f v s) ∧ mGo2 m = MT_.w_kind (MT_.w_sign (Mx m i w nu) sg) k ∧ Tok c f v (mGo2 m) ∧ f.toInt < i.toInt ∧ i.toInt ≤ m.size.toInt ∧ ¬ c = 102 := by
  have hb : By_ (s.by_ f.toNatClampNeg) (m.tp f.toNatClampNeg) := hB _ (by rw [nnI]; omega)
  have ef := add1 (x := f) (by omega)
  have fu : f.toInt + ((941 - f.toNatClampNeg : Nat) : Int) = 941 := by rw [nnI]; omega
  have lt2 : m.to < m.size := by rw [hto]; exact ltI.mpr hf
  have l01 := lc_01 (m.tp f.toNatClampNeg)
  have r0 : RJ f f 0 0 0 0 0 0 1 (isLc (m.tp f.toNatClampNeg)) := by
    refine ⟨h0, Int.le_refl _, by decide, by decide, by rw [k0]; omega, ?_, fun _ _ => ⟨[], by simp, fun c hc => absurd hc (List.not_mem_nil), rfl, rfl⟩, fun _ _ => ⟨rfl, by decide, fun _ => by decide, fun _ => by decide, fun _ => by decide, by decide⟩, fun z => by omega⟩
    rcases l01 with q | q
    · exact Or.inr ⟨q, Or.inl ⟨by decide, rfl⟩⟩
    · exact Or.inl ⟨q, Or.inl ⟨by decide, rfl⟩⟩
  obtain ⟨i3, le3, dg3, w3, nu3, w4, nu4, g4, a1, a2, a3, a4, a5, a6, a7⟩ := run_n hn hB hfr rfl (941 - f.toNatClampNeg) f 0 0 0 0 0 0 1 fu (by omega) r0
  have eq : rq s.by_ s.len f 0 0 0 0 = (i3, le3, dg3, w3, nu3) := by unfold rq; rw [hl]; exact a1
  by_cases al : isLc (m.tp f.toNatClampNeg) = 0 ∧ isDc (m.tp f.toNatClampNeg) = 0
  · have e3 := a7 al
    have g2 : mGo2 m = MT_.w_kind (MT_.w_sign (Mx m (f + 1) m.word m.number) (m.tp f.toNatClampNeg)) (mSg (m.tp f.toNatClampNeg)) := by
      unfold mGo2
      rw [if_pos lt2]
      simp only [hto]
      rw [if_pos al.1, if_pos al.2]
      rfl
    have fr : fReadToken f s = (f + 1, fAddToken (if isSg (s.by_ f.toNatClampNeg) = 0 then 103 else s.by_ f.toNatClampNeg) f 0 s) := by
      unfold fReadToken
      rw [eq]
      exact if_pos e3
    refine ⟨_, _, _, _, _, _, _, fr, g2, ?_, by omega, by omega, ?_⟩
    · rw [g2]
      refine ⟨hfr, ?_⟩
      rcases sg_by hb with ⟨x1, x2⟩ | ⟨x1, x2, x3⟩
      · rw [if_pos x1]
        exact Or.inr (Or.inl ⟨rfl, x2⟩)
      · rw [if_neg x1]
        exact Or.inr (Or.inr (Or.inl ⟨x1, x2, x3.symm⟩))
    · rcases sg_by hb with ⟨x1, x2⟩ | ⟨x1, x2, x3⟩
      · rw [if_pos x1]; decide
      · rw [if_neg x1]
        intro e
        have := sg_t x1
        rw [e, k102] at this; omega
  · have lt3 := a6 hf al
    have ne : ¬ i3 = f := fun e => by rw [e] at lt3; omega
    have mr : mrun (isLc (m.tp f.toNatClampNeg)) 1 (MT_.w_number (MT_.w_word m 0) 0) = (g4, Mx m i3 w4 nu4) := by
      have e : MT_.w_number (MT_.w_word m 0) 0 = Mx m f 0 0 := by rw [← hto]; rfl
      unfold mrun
      rw [e]
      exact a2
    have g3 : mGo2 m = mGoE (g4, Mx m i3 w4 nu4) (isLc (m.tp f.toNatClampNeg)) := by
      unfold mGo2
      rw [if_pos lt2]
      simp only [hto]
      have e3 : mGo3 m = mGoE (g4, Mx m i3 w4 nu4) (isLc (m.tp f.toNatClampNeg)) := by
        unfold mGo3
        simp only [hto]
        rw [mr]
      by_cases q : isLc (m.tp f.toNatClampNeg) = 0
      · rw [if_pos q, if_neg (fun z => al ⟨q, z⟩), e3]
      · rw [if_neg q, e3]
    obtain ⟨b1, b2, b3, b4, b5, b6, b7, b8, b9⟩ := a3
    have t7 : (7 : Int32).toInt = 7 := by decide
    have t3 : (3 : Int32).toInt = 3 := by decide
    have sb : (i3 - f).toInt = i3.toInt - f.toInt := subI b1 b2
    have gE : mGo2 m = MT_.w_kind (MT_.w_sign (Mx m i3 w4 nu4) m.sign) (if g4 = 0 then 1 else if i3 - f ≤ (if isLc (m.tp f.toNatClampNeg) = 0 then 3 else 7) then (if isLc (m.tp f.toNatClampNeg) = 0 then 3 else 2) else 1) := by rw [g3, ← hfr]; rfl
    have bad : g4 = 0 ∨ (¬ i3 - f ≤ (if isLc (m.tp f.toNatClampNeg) = 0 then 3 else 7)) → fReadToken f s = (i3, fAddToken 103 f 0 s) → ∃ (c : Int32) (v : Int64) (i : Int32) (k : Int32) (nu sg : Int32) (w : Int64), fReadToken f s = (i, fAddToken c f v s) ∧ mGo2 m = MT_.w_kind (MT_.w_sign (Mx m i w nu) sg) k ∧ Tok c f v (mGo2 m) ∧ f.toInt < i.toInt ∧ i.toInt ≤ m.size.toInt ∧ ¬ c = 102 := fun x1 x2 => by
      have k1 : (if g4 = 0 then (1 : Int32) else if i3 - f ≤ (if isLc (m.tp f.toNatClampNeg) = 0 then 3 else 7) then (if isLc (m.tp f.toNatClampNeg) = 0 then 3 else 2) else 1) = 1 := by
        by_cases z : g4 = 0
        · rw [if_pos z]
        · rcases x1 with x1 | x1
          · exact absurd x1 z
          · rw [if_neg z, if_neg x1]
      refine ⟨_, _, _, _, _, _, _, x2, gE, ?_, lt3, a5, by decide⟩
      rw [gE, k1]
      exact ⟨hfr, Or.inr (Or.inl ⟨rfl, rfl⟩)⟩
    by_cases d0 : dg3 = 0
    · have d1 : dg3.toInt = 0 := by rw [d0, k0]
      have hlt1 : isLc (m.tp f.toNatClampNeg) = 1 := by
        rcases b9 lt3 with y | y
        · exact y.1
        · omega
      have hg : g4 = 1 := by
        rcases b6 with ⟨x, y⟩ | ⟨x, y⟩
        · rcases y with y | y
          · exact y.2
          · omega
        · rw [hlt1] at x; exact absurd x (by decide)
      have lp : ¬ le3 = 0 := fun e => by rw [e, k0] at b5; omega
      by_cases l7 : (7 : Int32) < le3
      · refine bad (Or.inr ?_) ?_
        · rw [hlt1, if_neg (by decide), leI, t7, sb]
          have := ltI.mp l7
          rw [t7] at this; omega
        · unfold fReadToken
          rw [eq]
          simp only [RQ_.i, RQ_.le, RQ_.dg, RQ_.w, RQ_.nu, (eq_false ne), (eq_true d0), (eq_true l7), (eq_false lp), if_true, if_false]
      · have l8 : le3.toInt ≤ 7 := by rw [ltI, t7] at l7; omega
        have fr : fReadToken f s = (i3, fAddToken (fTow w3 s) f w3 s) := by
          unfold fReadToken
          rw [eq]
          simp only [RQ_.i, RQ_.le, RQ_.dg, RQ_.w, RQ_.nu, (eq_false ne), (eq_true d0), (eq_false l7), if_true, if_false]
        have k2 : (if g4 = 0 then (1 : Int32) else if i3 - f ≤ (if isLc (m.tp f.toNatClampNeg) = 0 then 3 else 7) then (if isLc (m.tp f.toNatClampNeg) = 0 then 3 else 2) else 1) = 2 := by
          have c7 : i3 - f ≤ 7 := leI.mpr (by rw [t7, sb]; omega)
          simp only [hg, hlt1, one0, if_false, eq_true c7, if_true]
        obtain ⟨ls, c1, c2, c3, c4⟩ := b7 d1 (by omega)
        have cw := tow_cw hw (v := w3)
        refine ⟨_, _, _, _, _, _, _, fr, gE, ?_, lt3, a5, ?_⟩
        · rw [gE, k2]
          exact ⟨hfr, Or.inr (Or.inr (Or.inr (Or.inr ⟨rfl, ⟨ls, by omega, c2, c3, c4⟩, cw⟩)))⟩
        · intro e
          have := cw_lt cw
          unfold fTow at e
          rw [e, k102] at this; omega
    · have d1 : 0 < dg3.toInt := by
        rcases (show dg3.toInt = 0 ∨ 0 < dg3.toInt by omega) with y | y
        · exact absurd (i_ext (by rw [y, k0])) d0
        · exact y
      by_cases l0 : le3 = 0
      · have l1 : le3.toInt = 0 := by rw [l0, k0]
        have hlt0 : isLc (m.tp f.toNatClampNeg) = 0 := by
          rcases b9 lt3 with y | y
          · omega
          · exact y.1
        have hg : g4 = 1 := by
          rcases b6 with ⟨x, y⟩ | ⟨x, y⟩
          · rw [hlt0] at x; exact absurd x (by decide)
          · rcases y with y | y
            · exact y.2
            · omega
        by_cases n3 : (3 : Int32) < dg3
        · refine bad (Or.inr ?_) ?_
          · rw [hlt0, if_pos rfl, leI, t3, sb]
            have := ltI.mp n3
            rw [t3] at this; omega
          · unfold fReadToken
            rw [eq]
            simp only [RQ_.i, RQ_.le, RQ_.dg, RQ_.w, RQ_.nu, (eq_false ne), (eq_false d0), (eq_true l0), (eq_true n3), if_true, if_false]
        · have n4 : dg3.toInt ≤ 3 := by rw [ltI, t3] at n3; omega
          have fr : fReadToken f s = (i3, fAddToken 101 f (Int32.toInt64 nu3) s) := by
            unfold fReadToken
            rw [eq]
            simp only [RQ_.i, RQ_.le, RQ_.dg, RQ_.w, RQ_.nu, (eq_false ne), (eq_false d0), (eq_true l0), (eq_false n3), if_true, if_false]
          have k3 : (if g4 = 0 then (1 : Int32) else if i3 - f ≤ (if isLc (m.tp f.toNatClampNeg) = 0 then 3 else 7) then (if isLc (m.tp f.toNatClampNeg) = 0 then 3 else 2) else 1) = 3 := by
            have c3 : i3 - f ≤ 3 := leI.mpr (by rw [t3, sb]; omega)
            simp only [hg, hlt0, one0, if_false, eq_true c3, if_true]
          obtain ⟨c1, c2, c3, c4, c5, c6⟩ := b8 l1 (by omega)
          refine ⟨_, _, _, _, _, _, _, fr, gE, ?_, lt3, a5, by decide⟩
          rw [gE, k3]
          exact ⟨hfr, Or.inr (Or.inr (Or.inr (Or.inl ⟨rfl, rfl, by rw [c1]; rfl, by rw [← c1] at *; exact c2, by rw [← c1] at *; exact c6⟩)))⟩
      · refine bad (Or.inl ?_) ?_
        · rcases b6 with ⟨x, y⟩ | ⟨x, y⟩
          · rcases y with y | y
            · omega
            · exact y.2
          · rcases y with y | y
            · exact absurd (i_ext (by rw [y.1, k0])) l0
            · exact y.2
        · unfold fReadToken
          rw [eq]
          simp only [RQ_.i, RQ_.le, RQ_.dg, RQ_.w, RQ_.nu, (eq_false ne), (eq_false d0), (eq_false l0), if_true, if_false]
