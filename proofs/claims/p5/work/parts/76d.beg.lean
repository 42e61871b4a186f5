/-! all TOKENS of a text: the class's row, the reference's steps -/
def It : Nat → MT_ → MT_
  | 0, m => m
  | k + 1, m => mGo (It k m)
theorem it_go : ∀ (k : Nat) (m : MT_), It k (mGo m) = It (k + 1) m
  | 0, _ => rfl
  | k + 1, m => congrArg mGo (it_go k m)
def Spc (c : Int32) : Prop := c = 32 ∨ c = 10
theorem msk_ex : ∀ (d : Nat) {m : MT_}, m.to.toInt + d = m.size.toInt → m.size.toInt ≤ 940 → 0 ≤ m.to.toInt →
    ∃ p : Int32, msk m = MT_.w_to m p ∧ m.to.toInt ≤ p.toInt ∧ p.toInt ≤ m.size.toInt ∧ (∀ j : Nat, m.to.toInt ≤ j → (j : Int) < p.toInt → Spc (m.tp j)) ∧ (p.toInt < m.size.toInt → ¬ Spc (m.tp p.toNatClampNeg))
  | 0, m, h, hn, h0 => by
    refine ⟨m.to, ?_, Int.le_refl _, by omega, fun j h1 h2 => by omega, fun q => by omega⟩
    rw [msk_eq rfl (⟨h0, by omega⟩ : Rg 0 940 m.to), if_pos (leI.mpr (by omega))]
    rfl
  | d + 1, m, h, hn, h0 => by
    have e1 := add1 (x := m.to) (by omega)
    have mq := msk_eq (m := m) rfl (⟨h0, by omega⟩ : Rg 0 940 m.to)
    rw [if_neg (fun q => by have := leI.mp q; omega)] at mq
    by_cases q : Spc (m.tp m.to.toNatClampNeg)
    · have mq2 : msk m = msk (MT_.w_to m (m.to + 1)) := by
        rcases q with q | q
        · rw [mq, if_pos q]
        · by_cases q2 : m.tp m.to.toNatClampNeg = 32
          · rw [mq, if_pos q2]
          · rw [mq, if_neg q2, if_pos q]
      have a0 : (MT_.w_to m (m.to + 1)).to.toInt = m.to.toInt + 1 := e1
      have a00 : (MT_.w_to m (m.to + 1)).size = m.size := rfl
      obtain ⟨p, a1, a2, a3, a4, a5⟩ := msk_ex d (m := MT_.w_to m (m.to + 1)) (by rw [a0, a00]; omega) hn (by rw [a0]; omega)
      rw [a0] at a2 a4
      refine ⟨p, by rw [mq2, a1]; rfl, by omega, a3, fun j h1 h2 => ?_, a5⟩
      by_cases z : (j : Int) = m.to.toInt
      · have : j = m.to.toNatClampNeg := by rw [nnI]; omega
        rw [this]; exact q
      · exact a4 j (by omega) h2
    · refine ⟨m.to, ?_, Int.le_refl _, by omega, fun j h1 h2 => by omega, fun _ => q⟩
      rw [mq, if_neg (fun z => q (Or.inl z)), if_neg (fun z => q (Or.inr z))]
      rfl
theorem msk_at {m : MT_} {i : Int32} (hn : m.size.toInt ≤ 940) (h0 : 0 ≤ m.to.toInt) (h1 : m.to.toInt ≤ i.toInt) (h2 : i.toInt < m.size.toInt) (hs : ∀ j : Nat, m.to.toInt ≤ j → (j : Int) < i.toInt → Spc (m.tp j)) (hi : ¬ Spc (m.tp i.toNatClampNeg)) : msk m = MT_.w_to m i := by
  obtain ⟨p, a1, a2, a3, a4, a5⟩ := msk_ex (m.size.toInt - m.to.toInt).toNat (m := m) (by omega) hn h0
  have e : p = i := by
    rcases (show p.toInt < i.toInt ∨ p.toInt = i.toInt ∨ i.toInt < p.toInt by omega) with q | q | q
    · exact absurd (hs p.toNatClampNeg (by rw [nnI]; omega) (by rw [nnI]; omega)) (a5 (by omega))
    · exact i_ext q
    · exact absurd (a4 i.toNatClampNeg (by rw [nnI]; omega) (by rw [nnI]; omega)) hi
  rw [a1, e]
def BI (bd i be : Int32) (s : TP_) (r : Nat) (cb : Nat → Int32) (wd : Nat → Int64) (m : MT_) : Prop :=
  0 ≤ i.toInt ∧ i.toInt ≤ bd.toInt ∧ 0 ≤ be.toInt ∧ be.toInt ≤ m.size.toInt ∧
  (i.toInt ≤ be.toInt ∨ (be.toInt ≤ i.toInt ∧ ∀ j : Nat, be.toInt ≤ j → (j : Int) < i.toInt → Spc (m.tp j))) ∧
  s.n.toInt = r ∧ (r : Int) ≤ i.toInt ∧ s.by_ = cb ∧ s.wd = wd ∧ s.len = m.size ∧
  (∀ j : Nat, j < r → Tok (s.tk j) (s.pl j) (s.vl j) (It (j + 1) m) ∧ ¬ s.tk j = 102) ∧
  (It r m).to = be ∧ (It r m).tp = m.tp ∧ (It r m).size = m.size ∧ (It r m).limit = m.limit
theorem addtok {s : TP_} {c f : Int32} {v : Int64} {r : Nat} (h : s.n.toInt = r) (hr : r < 901) :
    fAddToken c f v s = TP_.w_n (TP_.w_vl (TP_.w_pl (TP_.w_tk s (up1 s.tk r c)) (up1 s.pl r f)) (up1 s.vl r v)) (s.n + 1) ∧ (s.n + 1).toInt = r + 1 := by
  have e : s.n.toNatClampNeg = r := by rw [nnI]; omega
  refine ⟨?_, by rw [add1 (by omega)]; omega⟩
  unfold fAddToken
  rw [if_neg (fun q => by have := leI.mp q; rw [show (901 : Int32).toInt = 901 from by decide] at this; omega), e]
theorem bg_n {bd : Int32} {cb : Nat → Int32} {wd : Nat → Int64} {m : MT_} (hn : m.size.toInt ≤ 940) (h9 : bd.toInt ≤ 900) (hbd : bd.toInt ≤ m.size.toInt) (hbl : bd.toInt ≤ m.limit.toInt) (hB : ∀ j : Nat, (j : Int) < m.size.toInt → By_ (cb j) (m.tp j)) (hw : Wk_ wd) :
    ∀ (k : Nat) (i be : Int32) (s : TP_) (r : Nat), i.toInt + k = 941 → BI bd i be s r cb wd m → ∃ (be2 : Int32) (r2 : Nat), BI bd bd be2 (bgg bd k i be s) r2 cb wd m
  | 0, i, be, s, r, hk, h => by have := h.2.1; omega
  | k + 1, i, be, s, r, hk, h => by
    obtain ⟨h1, h2, h3, h4, h5, h6, h7, h8, ha, hb, hc, hd, he, hf, hg⟩ := h
    unfold bgg
    by_cases q1 : bd ≤ i
    · rw [if_pos q1]
      have e : i = bd := i_ext (by have := leI.mp q1; omega)
      rw [e] at h1 h2 h5 h7
      exact ⟨be, r, h1, h2, h3, h4, h5, h6, h7, h8, ha, hb, hc, hd, he, hf, hg⟩
    · have q2 : i.toInt < bd.toInt := by rw [leI] at q1; omega
      have ei := add1 (x := i) (by omega)
      rw [if_neg q1]
      by_cases q3 : i < be
      · rw [if_pos q3]
        have := ltI.mp q3
        exact bg_n hn h9 hbd hbl hB hw k (i + 1) be s r (by omega) ⟨by omega, by omega, h3, h4, Or.inl (by omega), h6, by omega, h8, ha, hb, hc, hd, he, hf, hg⟩
      · rw [if_neg q3]
        have q4 : be.toInt ≤ i.toInt := by rw [ltI] at q3; omega
        have sp : ∀ j : Nat, be.toInt ≤ j → (j : Int) < i.toInt → Spc (m.tp j) := by
          rcases h5 with y | y
          · intro j y1 y2; omega
          · exact y.2
        have hby : By_ (s.by_ i.toNatClampNeg) (m.tp i.toNatClampNeg) := by rw [h8]; exact hB _ (by rw [nnI]; omega)
        have skip : Spc (m.tp i.toNatClampNeg) → ∃ (be2 : Int32) (r2 : Nat), BI bd bd be2 (bgg bd k (i + 1) be s) r2 cb wd m := fun z =>
          bg_n hn h9 hbd hbl hB hw k (i + 1) be s r (by omega) ⟨by omega, by omega, h3, h4, Or.inr ⟨by omega, fun j y1 y2 => by
            by_cases x : (j : Int) < i.toInt
            · exact sp j y1 x
            · have : j = i.toNatClampNeg := by rw [nnI]; omega
              rw [this]; exact z⟩, h6, by omega, h8, ha, hb, hc, hd, he, hf, hg⟩
        by_cases q5 : s.by_ i.toNatClampNeg = 32
        · rw [if_pos q5]
          exact skip (Or.inl ((by_eq hby (by decide) (by decide)).mp q5))
        · rw [if_neg q5]
          by_cases q6 : s.by_ i.toNatClampNeg = 10
          · rw [if_pos q6]
            exact skip (Or.inr ((by_eq hby (by decide) (by decide)).mp q6))
          · rw [if_neg q6]
            have ns : ¬ Spc (m.tp i.toNatClampNeg) := fun z => by
              rcases z with z | z
              · exact q5 ((by_eq hby (by decide) (by decide)).mpr z)
              · exact q6 ((by_eq hby (by decide) (by decide)).mpr z)
            have sk : msk (It r m) = MT_.w_to (It r m) i := msk_at (by rw [hf]; exact hn) (by rw [hd]; exact h3) (by rw [hd]; exact q4) (by rw [hf]; omega) (by rw [hd, he]; exact sp) (by rw [he]; exact ns)
            have gm : It (r + 1) m = mGo2 (MT_.w_frm (MT_.w_to (It r m) i) i) := by
              show mGo (It r m) = _
              unfold mGo
              rw [sk]
              by_cases z : (MT_.w_to (It r m) i).size ≤ (MT_.w_to (It r m) i).limit
              · exact if_pos z
              · refine (if_neg z).trans (if_pos ?_)
                show i < (It r m).limit
                rw [hg]; exact ltI.mpr (by omega)
            obtain ⟨c, v, i2, kk, nu, sg, w, a1, a2, a3, a4, a5, a6⟩ := tk_step (s := s) (m := MT_.w_frm (MT_.w_to (It r m) i) i) (f := i) (by show (It r m).size.toInt ≤ 940; rw [hf]; exact hn) (by show s.len = (It r m).size; rw [hf]; exact hb) (by
              intro j hj
              have hj2 : (j : Int) < (It r m).size.toInt := hj
              rw [hf] at hj2
              show By_ (s.by_ j) ((It r m).tp j)
              rw [h8, he]; exact hB j hj2) (by rw [ha]; exact hw) h1 (by show i.toInt < (It r m).size.toInt; rw [hf]; omega) rfl rfl
            rw [← gm] at a2 a3
            have a5' : i2.toInt ≤ m.size.toInt := by
              have y : i2.toInt ≤ (It r m).size.toInt := a5
              rw [hf] at y; exact y
            obtain ⟨b1, b2⟩ := addtok (s := s) (c := c) (f := i) (v := v) h6 (by omega)
            rw [a1]
            refine bg_n hn h9 hbd hbl hB hw k (i + 1) i2 (fAddToken c i v s) (r + 1) (by omega) ⟨by omega, by omega, by omega, a5', Or.inl (by omega), ?_, by omega, ?_, ?_, ?_, ?_, ?_, ?_, ?_, ?_⟩
            · rw [b1]; exact b2
            · rw [b1]; exact h8
            · rw [b1]; exact ha
            · rw [b1]; exact hb
            · intro j hj
              rw [b1]
              show Tok (up1 s.tk r c j) (up1 s.pl r i j) (up1 s.vl r v j) (It (j + 1) m) ∧ ¬ up1 s.tk r c j = 102
              by_cases z : j = r
              · subst z
                rw [up1_s, up1_s, up1_s]
                exact ⟨a3, a6⟩
              · rw [up1_j z, up1_j z, up1_j z]
                exact hc j (by omega)
            · rw [a2]; rfl
            · rw [a2]; exact he
            · rw [a2]; exact hf
            · rw [a2]; exact hg
/-- where both readers stand: the same TOKEN, and all behind it -/
def Strm (t : TP_) (m : MT_) : Prop := ∃ N k : Nat, k < N ∧ N ≤ 901 ∧ t.n.toInt = N ∧ t.at_.toInt = k ∧ t.token = t.tk k ∧ t.place = t.pl k ∧ t.value = t.vl k ∧
  (∀ j : Nat, k ≤ j → j < N → Tok (t.tk j) (t.pl j) (t.vl j) (It (j - k) m)) ∧ (t.tk (N - 1) = 102 ∨ t.tk (N - 1) = 103)
theorem strm_tok {t : TP_} {m : MT_} (h : Strm t m) : Tok t.token t.place t.value m := by
  obtain ⟨N, k, a1, a2, a3, a4, a5, a6, a7, a8, a9⟩ := h
  have := a8 k (Nat.le_refl _) a1
  rw [Nat.sub_self] at this
  rw [a5, a6, a7]; exact this
theorem strm_adv {t : TP_} {m : MT_} (h : Strm t m) (h2 : ¬ t.token = 102) (h3 : ¬ t.token = 103) : Strm (fAdvance t) (mGo m) ∧ (fAdvance t).fault = t.fault ∧ (fAdvance t).fat = t.fat := by
  obtain ⟨N, k, a1, a2, a3, a4, a5, a6, a7, a8, a9⟩ := h
  have nk : k + 1 < N := by
    rcases (show k + 1 < N ∨ k = N - 1 by omega) with q | q
    · exact q
    · rw [← q, ← a5] at a9
      rcases a9 with z | z
      · exact absurd z h2
      · exact absurd z h3
  have e1 := add1 (x := t.at_) (by omega)
  have e2 : (t.at_ + 1).toNatClampNeg = k + 1 := by rw [nnI]; omega
  have fa : fAdvance t = TP_.w_value (TP_.w_place (TP_.w_token (TP_.w_at_ t (t.at_ + 1)) (t.tk (k + 1))) (t.pl (k + 1))) (t.vl (k + 1)) := by
    unfold fAdvance
    rw [if_neg (fun q => by have := leI.mp q; omega), e2]
  rw [fa]
  refine ⟨⟨N, k + 1, nk, a2, a3, ?_, rfl, rfl, rfl, fun j h1 h2 => ?_, a9⟩, rfl, rfl⟩
  · show (t.at_ + 1).toInt = _
    omega
  · show Tok (t.tk j) (t.pl j) (t.vl j) (It (j - (k + 1)) (mGo m))
    rw [it_go, show j - (k + 1) + 1 = j - k by omega]
    exact a8 j (by omega) h2
theorem adv0 {u : TP_} (h : u.at_ = -1) (hn : 0 < u.n.toInt) : fAdvance u = TP_.w_value (TP_.w_place (TP_.w_token (TP_.w_at_ u 0) (u.tk 0)) (u.pl 0)) (u.vl 0) := by
  unfold fAdvance
  rw [h, show ((-1 : Int32) + 1) = 0 from by decide, if_neg (fun z => by have := leI.mp z; rw [k0] at this; omega), show (0 : Int32).toNatClampNeg = 0 from by decide]
theorem beg {s : TP_} {m : MT_} {most : Int32} (hn : m.size.toInt ≤ 940) (hn0 : 0 ≤ m.size.toInt) (h0 : 0 ≤ most.toInt) (h9 : most.toInt ≤ 900) (hl : s.len = m.size) (hlim : m.limit = most) (hto : m.to = 0) (hB : ∀ j : Nat, (j : Int) < m.size.toInt → By_ (s.by_ j) (m.tp j)) (hw : Wk_ s.wd) :
    Strm (fBegin most s) (mGo m) ∧ (fBegin most s).fault = 0 := by
  have t940 : (940 : Int32).toInt = 940 := by decide
  -- the bound
  have hbd : ∃ bd : Int32, fBound s.len most = bd ∧ ((m.size.toInt ≤ most.toInt ∧ bd.toInt = m.size.toInt) ∨ (most.toInt < m.size.toInt ∧ bd.toInt = most.toInt)) := by
    refine ⟨_, rfl, ?_⟩
    unfold fBound
    rw [hl]
    by_cases q : most < m.size
    · have := ltI.mp q
      rw [if_pos q, if_neg (fun z => by have := ltI.mp z; rw [t940] at this; omega)]
      exact Or.inr ⟨this, rfl⟩
    · rw [if_neg q, if_neg (fun z => by have := ltI.mp z; rw [t940] at this; omega)]
      rw [ltI] at q
      exact Or.inl ⟨by omega, rfl⟩
  obtain ⟨bd, eb, cb⟩ := hbd
  have b0 : BI bd 0 0 (TP_.w_n s 0) 0 s.by_ s.wd m := ⟨by decide, by rw [k0]; omega, by decide, by rw [k0]; exact hn0, Or.inl (Int.le_refl _), (show (0 : Int32).toInt = ((0 : Nat) : Int) from by decide), by decide, rfl, rfl, hl, fun j hj => absurd hj (Nat.not_lt_zero _), hto, rfl, rfl, rfl⟩
  obtain ⟨be, r, h⟩ := bg_n hn (by omega) (by omega) (by rw [hlim]; omega) hB hw 941 0 0 (TP_.w_n s 0) 0 (by decide) b0
  have el : fBl most s = (bd, bgg bd 941 0 0 (TP_.w_n s 0)) := by unfold fBl; rw [eb]; rfl
  obtain ⟨S, hS⟩ : ∃ S, bgg bd 941 0 0 (TP_.w_n s 0) = S := ⟨_, rfl⟩
  rw [hS] at h el
  obtain ⟨g1, g2, g3, g4, g5, g6, g7, g8, ga, gb, gc, gd, ge, gf, gg⟩ := h
  obtain ⟨p, a1, a2, a3, a4, a5⟩ := msk_ex ((It r m).size.toInt - (It r m).to.toInt).toNat (m := It r m) (by rw [gf, gd]; omega) (by rw [gf]; exact hn) (by rw [gd]; exact g3)
  rw [gd] at a2 a4
  rw [gf] at a3 a5
  rw [ge] at a4 a5
  -- the place behind all that is skipped
  have pb : bd.toInt ≤ p.toInt := by
    rcases g5 with y | y
    · omega
    · rcases (show bd.toInt ≤ p.toInt ∨ p.toInt < bd.toInt by omega) with z | z
      · exact z
      · exact absurd (y.2 p.toNatClampNeg (by rw [nnI]; omega) (by rw [nnI]; omega)) (a5 (by omega))
  have last : Tok (if S.len ≤ most then 102 else 103) bd 0 (It (r + 1) m) := by
    show Tok _ bd 0 (mGo (It r m))
    unfold mGo
    rw [a1, gb]
    rcases cb with ⟨c1, c2⟩ | ⟨c1, c2⟩
    · have ep : p = m.size := i_ext (by omega)
      rw [if_pos (leI.mpr c1)]
      have e : (if (MT_.w_to (It r m) p).size ≤ (MT_.w_to (It r m) p).limit then mGo2 (MT_.w_frm (MT_.w_to (It r m) p) (MT_.w_to (It r m) p).to) else if (MT_.w_to (It r m) p).to < (MT_.w_to (It r m) p).limit then mGo2 (MT_.w_frm (MT_.w_to (It r m) p) (MT_.w_to (It r m) p).to) else MT_.w_kind (MT_.w_frm (MT_.w_to (It r m) p) (MT_.w_to (It r m) p).limit) 1) = MT_.w_kind (MT_.w_frm (MT_.w_to (It r m) p) p) 0 := by
        refine (if_pos (show (MT_.w_to (It r m) p).size ≤ (MT_.w_to (It r m) p).limit from by show (It r m).size ≤ (It r m).limit; rw [gf, gg, hlim]; exact leI.mpr c1)).trans ?_
        unfold mGo2
        exact if_neg (fun z => by
          have z2 : p < (It r m).size := z
          rw [gf, ep] at z2
          have := ltI.mp z2; omega)
      refine (congrArg (Tok 102 bd 0) e).mpr ⟨?_, Or.inl ⟨rfl, rfl⟩⟩
      show p = bd
      exact i_ext (by omega)
    · rw [if_neg (fun z => by have := leI.mp z; omega)]
      have e : (if (MT_.w_to (It r m) p).size ≤ (MT_.w_to (It r m) p).limit then mGo2 (MT_.w_frm (MT_.w_to (It r m) p) (MT_.w_to (It r m) p).to) else if (MT_.w_to (It r m) p).to < (MT_.w_to (It r m) p).limit then mGo2 (MT_.w_frm (MT_.w_to (It r m) p) (MT_.w_to (It r m) p).to) else MT_.w_kind (MT_.w_frm (MT_.w_to (It r m) p) (MT_.w_to (It r m) p).limit) 1) = MT_.w_kind (MT_.w_frm (MT_.w_to (It r m) p) most) 1 := by
        refine (if_neg (show ¬ (MT_.w_to (It r m) p).size ≤ (MT_.w_to (It r m) p).limit from by show ¬ (It r m).size ≤ (It r m).limit; rw [gf, gg, hlim]; intro z; have := leI.mp z; omega)).trans ?_
        refine (if_neg (show ¬ (MT_.w_to (It r m) p).to < (MT_.w_to (It r m) p).limit from by show ¬ p < (It r m).limit; rw [gg, hlim]; intro z; have := ltI.mp z; omega)).trans ?_
        show MT_.w_kind (MT_.w_frm (MT_.w_to (It r m) p) (It r m).limit) 1 = _
        rw [gg, hlim]
      refine (congrArg (Tok 103 bd 0) e).mpr ⟨?_, Or.inr (Or.inl ⟨rfl, rfl⟩)⟩
      show most = bd
      exact i_ext (by omega)
  have lc : (if S.len ≤ most then (102 : Int32) else 103) = 102 ∨ (if S.len ≤ most then (102 : Int32) else 103) = 103 := by
    by_cases z : S.len ≤ most
    · rw [if_pos z]; exact Or.inl rfl
    · rw [if_neg z]; exact Or.inr rfl
  obtain ⟨x, hx⟩ : ∃ x, (if S.len ≤ most then (102 : Int32) else 103) = x := ⟨_, rfl⟩
  have fb : fBegin most s = fAdvance (TP_.w_at_ (TP_.w_fat (TP_.w_fault (fAddToken x bd 0 S) 0) 0) (-1)) := by
    unfold fBegin
    rw [el, ← hx]
  rw [hx] at last lc
  obtain ⟨b1, b2⟩ := addtok (s := S) (c := x) (f := bd) (v := 0) g6 (by omega)
  rw [fb, b1]
  obtain ⟨U, hU⟩ : ∃ U, TP_.w_at_ (TP_.w_fat (TP_.w_fault (TP_.w_n (TP_.w_vl (TP_.w_pl (TP_.w_tk S (up1 S.tk r x)) (up1 S.pl r bd)) (up1 S.vl r 0)) (S.n + 1)) 0) 0) (-1) = U := ⟨_, rfl⟩
  have u1 : U.at_ = -1 := by rw [← hU]; rfl
  have u2 : U.n = S.n + 1 := by rw [← hU]; rfl
  have u3 : U.tk = up1 S.tk r x := by rw [← hU]; rfl
  have u4 : U.pl = up1 S.pl r bd := by rw [← hU]; rfl
  have u5 : U.vl = up1 S.vl r 0 := by rw [← hU]; rfl
  have u6 : U.fault = 0 := by rw [← hU]; rfl
  have fa := adv0 u1 (by rw [u2]; omega)
  rw [hU]
  rw [fa]
  refine ⟨⟨r + 1, 0, by omega, by omega, ?_, (show (0 : Int32).toInt = ((0 : Nat) : Int) from by decide), rfl, rfl, rfl, fun j _ hj => ?_, ?_⟩, u6⟩
  · show U.n.toInt = _
    rw [u2]; omega
  · show Tok (U.tk j) (U.pl j) (U.vl j) (It (j - 0) (mGo m))
    rw [Nat.sub_zero, it_go, u3, u4, u5]
    by_cases z : j = r
    · subst z
      rw [up1_s, up1_s, up1_s]; exact last
    · rw [up1_j z, up1_j z, up1_j z]
      exact (gc j (by omega)).1
  · show U.tk (r + 1 - 1) = 102 ∨ U.tk (r + 1 - 1) = 103
    rw [u3, Nat.add_sub_cancel, up1_s]
    exact lc
