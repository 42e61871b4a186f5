/-! what the reading methods do, as functions of states: each follows its method's code -/
def lc_ (x y : Int64) : Int32 := if x < y then -1 else if x = y then 0 else 1
/-! letters, digits, signs -/
def isLc (c : Int32) : Int32 := if c < 97 then 0 else if 122 < c then 0 else 1
def isDc (c : Int32) : Int32 := if c < 48 then 0 else if 57 < c then 0 else 1
def isSg (c : Int32) : Int32 := if c = 40 then 1 else if c = 41 then 1 else if c < 59 then 0 else if 62 < c then 0 else 1
def wlt (a : Int64) (c : Int32) : Int64 := a <<< (Int32.toInt64 5 &&& 63) ||| Int32.toInt64 (c - 97 + 1)
/-! the tape -/
def fAddToken (k f : Int32) (v : Int64) (s : TP_) : TP_ := if 901 ≤ s.n then s else (TP_.w_n (TP_.w_vl (TP_.w_pl (TP_.w_tk s (up1 s.tk s.n.toNatClampNeg k)) (up1 s.pl s.n.toNatClampNeg f)) (up1 s.vl s.n.toNatClampNeg v)) (s.n + 1))
def fAdvance (s : TP_) : TP_ := if s.n ≤ s.at_ + 1 then s else (TP_.w_value (TP_.w_place (TP_.w_token (TP_.w_at_ s (s.at_ + 1)) (s.tk (s.at_ + 1).toNatClampNeg)) (s.pl (s.at_ + 1).toNatClampNeg)) (s.vl (s.at_ + 1).toNatClampNeg))
def fFail (k : Int32) (s : TP_) : Int32 × TP_ := if s.fault = 0 then (0, (TP_.w_fat (TP_.w_fault s (k)) (s.place))) else (0, s)
def fTake (c : Int32) (s : TP_) : Int32 × TP_ := if s.token = c then (1, fAdvance s) else fFail 1 s
def fTakeNumber (a b : Int32) (s : TP_) : Int32 × TP_ := if s.token = 101 then (if lc_ s.value (Int32.toInt64 a) < 0 then (-1, (fFail 2 s).2) else if lc_ s.value (Int32.toInt64 b) ≤ 0 then (Int64.toInt32 s.value, fAdvance s) else (-1, (fFail 2 s).2)) else (-1, (fFail 1 s).2)
def fTakeName (f : Int32) (s : TP_) : Int32 × TP_ := if s.token = 100 then (if f = -1 then (-1, (fFail 3 s).2) else (f, fAdvance s)) else (-1, (fFail 1 s).2)
def towg (wd : Nat → Int64) (w : Int64) : Nat → Int32 → Int32
  | 0, _ => 100
  | k + 1, i => if 28 ≤ i then 100 else if lc_ (wd i.toNatClampNeg) w = 0 then i else towg wd w k (i + 1)
def tow (wd : Nat → Int64) (w : Int64) (i : Int32) : Int32 := towg wd w (29 - i.toNatClampNeg) i
def fTow (w : Int64) (s : TP_) : Int32 := tow s.wd w 0
abbrev RQ_ : Type := Int32 × Int32 × Int32 × Int64 × Int32
def RQ_.i (q : RQ_) : Int32 := q.1
def RQ_.le (q : RQ_) : Int32 := q.2.1
def RQ_.dg (q : RQ_) : Int32 := q.2.2.1
def RQ_.w (q : RQ_) : Int64 := q.2.2.2.1
def RQ_.nu (q : RQ_) : Int32 := q.2.2.2.2
def rqg (b : Nat → Int32) (len : Int32) : Nat → Int32 → Int32 → Int32 → Int64 → Int32 → RQ_
  | 0, i, le, dg, w, nu => ⟨i, le, dg, w, nu⟩
  | k + 1, i, le, dg, w, nu =>
    if len ≤ i then ⟨i, le, dg, w, nu⟩ else if 940 ≤ i then ⟨i, le, dg, w, nu⟩
    else if isLc (b i.toNatClampNeg) = 0 then
      (if isDc (b i.toNatClampNeg) = 0 then ⟨i, le, dg, w, nu⟩ else rqg b len k (i + 1) le (dg + 1) w (nu * 10 + b i.toNatClampNeg - 48))
    else rqg b len k (i + 1) (le + 1) dg (wlt w (b i.toNatClampNeg)) nu
def rq (b : Nat → Int32) (len i le dg : Int32) (w : Int64) (nu : Int32) : RQ_ := rqg b len (941 - i.toNatClampNeg) i le dg w nu
def fReadToken (f : Int32) (s : TP_) : Int32 × TP_ :=
  let q := rq s.by_ s.len f 0 0 0 0
  if q.i = f then (f + 1, fAddToken (if isSg (s.by_ f.toNatClampNeg) = 0 then 103 else s.by_ f.toNatClampNeg) f 0 s)
  else if q.dg = 0 then
    (if 7 < q.le then
      (if q.le = 0 then (if 3 < q.dg then (q.i, fAddToken 103 f 0 s) else (q.i, fAddToken 101 f (Int32.toInt64 q.nu) s))
      else (q.i, fAddToken 103 f 0 s))
    else (q.i, fAddToken (fTow q.w s) f q.w s))
  else if q.le = 0 then (if 3 < q.dg then (q.i, fAddToken 103 f 0 s) else (q.i, fAddToken 101 f (Int32.toInt64 q.nu) s))
  else (q.i, fAddToken 103 f 0 s)
def bgg (bd : Int32) : Nat → Int32 → Int32 → TP_ → TP_
  | 0, _, _, s => s
  | k + 1, i, be, s =>
    if bd ≤ i then s else if i < be then bgg bd k (i + 1) be s
    else if s.by_ i.toNatClampNeg = 32 then bgg bd k (i + 1) be s
    else if s.by_ i.toNatClampNeg = 10 then bgg bd k (i + 1) be s
    else bgg bd k (i + 1) (fReadToken i s).1 (fReadToken i s).2
def bg (bd i be : Int32) (s : TP_) : TP_ := bgg bd (941 - i.toNatClampNeg) i be s
def min32 (x y : Int32) : Int32 := if y < x then y else x
def fBound (len most : Int32) : Int32 := if 940 < (if most < len then most else len) then 940 else (if most < len then most else len)
def fBl (most : Int32) (s : TP_) : Int32 × TP_ := (fBound s.len most, bg (fBound s.len most) 0 0 (TP_.w_n s (0)))
def fBegin (most : Int32) (s : TP_) : TP_ :=
  let q := fBl most s
  fAdvance (TP_.w_at_ (TP_.w_fat (TP_.w_fault (fAddToken (if q.2.len ≤ most then 102 else 103) q.1 0 q.2) (0)) (0)) (-1))
/-! persons and dishes -/
def fndg (nm : Nat → Int64) (cnt : Int32) (w : Int64) : Nat → Int32 → Int32
  | 0, _ => -1
  | k + 1, p => if cnt ≤ p then -1 else if lc_ (nm p.toNatClampNeg) w = 0 then p else fndg nm cnt w k (p + 1)
def fnd (nm : Nat → Int64) (cnt : Int32) (w : Int64) (p : Int32) : Int32 := fndg nm cnt w (9 - p.toNatClampNeg) p
def fPersonNamed (w : Int64) (b : TB_) : Int32 := fnd b.pnm b.persons w 0
def fDishNamed (w : Int64) (b : TB_) : Int32 := fnd b.dnm b.dishes w 0
def fForgetB (b : TB_) : TB_ := (TB_.w_dogs (TB_.w_law (TB_.w_dishes (TB_.w_persons b (0)) (0)) (0)) (0))
def fzg : Nat → Int32 → CP_ → CP_
  | 0, _, c => c
  | k + 1, i, c => if 42 ≤ i then c else fzg k (i + 1) (CP_.w_pcs c (up1 c.pcs i.toNatClampNeg 0))
def fz (i : Int32) (c : CP_) : CP_ := fzg (43 - i.toNatClampNeg) i c
def fForgetC (c : CP_) : CP_ := fz 0 c
def fOnPlate (p d : Int32) (c : CP_) : Int32 := c.pcs (p * 6 + d).toNatClampNeg
def fAddToPlate (p d n : Int32) (c : CP_) : CP_ := (CP_.w_pcs c (up1 c.pcs (p * 6 + d).toNatClampNeg (c.pcs (p * 6 + d).toNatClampNeg + n)))
/-! the lines of a TABLE -/
abbrev RS := TP_ × TB_ × CP_ × XP_
def fFailR (k : Int32) (t : TP_) (b : TB_) (c : CP_) (x : XP_) : Int32 × RS := let q := fFail k t; (q.1, q.2, b, c, x)
def fNewName (t : TP_) (b : TB_) (c : CP_) (x : XP_) : Int32 × RS :=
  if t.token = 100 then
    (if fPersonNamed t.value b = -1 then (if fDishNamed t.value b = -1 then (1, fAdvance t, b, c, x) else fFailR 3 t b c x)
    else fFailR 3 t b c x)
  else fFailR 1 t b c x
def fTakeR (k : Int32) (t : TP_) (b : TB_) (c : CP_) (x : XP_) : Int32 × RS := let q := fTake k t; (q.1, q.2, b, c, x)
def fPutPerson (w : Int64) (q : Int32) (b : TB_) : TB_ := (TB_.w_persons (TB_.w_par (TB_.w_pnm b (up1 b.pnm b.persons.toNatClampNeg w)) (up1 b.par b.persons.toNatClampNeg q)) (b.persons + 1))
def fReadPerson (t : TP_) (b : TB_) (c : CP_) (x : XP_) : Int32 × RS :=
  if b.persons < 7 then
    let t1 := fAdvance t
    let q1 := fNewName t1 b c x
    if q1.1 = 0 then (0, q1.2)
    else
      let q2 := fTakeNumber 0 20 q1.2.1
      if q2.1 = -1 then (0, q2.2, q1.2.2)
      else if q2.2.token = 5 then
        let t2 := fAdvance q2.2
        let q3 := fTakeName (fPersonNamed t2.value q1.2.2.1) t2
        if q3.1 = -1 then (0, q3.2, q1.2.2)
        else fTakeR 59 q3.2 (fPutPerson t1.value q3.1 q1.2.2.1) q1.2.2.2.1 q1.2.2.2.2
      else fTakeR 59 q2.2 (fPutPerson t1.value (-1) q1.2.2.1) q1.2.2.2.1 q1.2.2.2.2
  else fFailR 4 t b c x
def fPutDish (w : Int64) (b : TB_) : TB_ := (TB_.w_dishes (TB_.w_dnm b (up1 b.dnm b.dishes.toNatClampNeg w)) (b.dishes + 1))
def fReadDish (t : TP_) (b : TB_) (c : CP_) (x : XP_) : Int32 × RS :=
  if b.dishes < 6 then
    let t1 := fAdvance t
    let q1 := fNewName t1 b c x
    if q1.1 = 0 then (0, q1.2)
    else
      let q2 := fTakeNumber 0 99 q1.2.1
      if q2.1 = -1 then (0, q2.2, q1.2.2)
      else if q2.2.token = 6 then
        let q3 := fTakeNumber 1 9 (fAdvance q2.2)
        if q3.1 = -1 then (0, q3.2, q1.2.2)
        else fTakeR 59 q3.2 (fPutDish t1.value q1.2.2.1) q1.2.2.2.1 q1.2.2.2.2
      else fTakeR 59 q2.2 (fPutDish t1.value q1.2.2.1) q1.2.2.2.1 q1.2.2.2.2
  else fFailR 4 t b c x
def fReadPlate3 (p d : Int32) (t : TP_) (b : TB_) (c : CP_) (x : XP_) : Int32 × RS :=
  let q2 := fTakeName d t
  if q2.1 = -1 then (0, q2.2, b, c, x)
  else
    let q3 := fTakeNumber 1 40 q2.2
    if q3.1 = -1 then (0, q3.2, b, c, x)
    else fTakeR 59 q3.2 b (fAddToPlate p d q3.1 c) x
def fReadPlate (t : TP_) (b : TB_) (c : CP_) (x : XP_) : Int32 × RS :=
  let t1 := fAdvance t
  let q1 := fTakeName (fPersonNamed t1.value b) t1
  if q1.1 = -1 then (0, q1.2, b, c, x)
  else
    let d := fDishNamed q1.2.value b
    if q1.2.token = 100 then
      (if d = -1 then fReadPlate3 q1.1 d q1.2 b c x
      else if fOnPlate q1.1 d c ≤ 0 then fReadPlate3 q1.1 d q1.2 b c x
      else fFailR 3 q1.2 b c x)
    else fReadPlate3 q1.1 d q1.2 b c x
def fReadLaw (t : TP_) (b : TB_) (c : CP_) (x : XP_) : Int32 × RS :=
  if x.lt = 0 then
    let t1 := fAdvance t
    if t1.token = 7 then fTakeR 59 (fAdvance t1) (TB_.w_law b (0)) c (XP_.w_lt x (1))
    else if t1.token = 8 then fTakeR 59 (fAdvance t1) (TB_.w_law b (1)) c (XP_.w_lt x (1))
    else if t1.token = 9 then fTakeR 59 (fAdvance t1) (TB_.w_law b (2)) c (XP_.w_lt x (1))
    else fFailR 1 t1 b c (XP_.w_lt x (1))
  else fFailR 3 t b c x
def fReadDogs (t : TP_) (b : TB_) (c : CP_) (x : XP_) : Int32 × RS :=
  if x.dt = 0 then
    let q1 := fTakeNumber 0 9 (fAdvance t)
    if q1.1 = -1 then (0, q1.2, (TB_.w_dogs b (q1.1)), c, (XP_.w_dt x (1)))
    else
      let q2 := fTake 59 q1.2
      if q2.1 = 0 then (0, q2.2, (TB_.w_dogs b (q1.1)), c, (XP_.w_dt x (1))) else (1, q2.2, (TB_.w_dogs b (q1.1)), c, (XP_.w_dt x (1)))
  else fFailR 3 t b c x
def fReadLine (t : TP_) (b : TB_) (c : CP_) (x : XP_) : Int32 × RS :=
  if t.token.toInt = 0 then fReadPerson t b c x
  else if t.token.toInt = 1 then fReadDish t b c x
  else if t.token.toInt = 2 then fReadPlate t b c x
  else if t.token.toInt = 3 then fReadLaw t b c x
  else if t.token.toInt = 4 then fReadDogs t b c x
  else fFailR 1 t b c x
def rlg : Nat → Int32 → RS → Int32 × RS
  | 0, i, s => (i, s)
  | k + 1, i, s => if 900 ≤ i then (i, s) else if s.1.token = 102 then (i, s)
    else
      let q := fReadLine s.1 s.2.1 s.2.2.1 s.2.2.2
      if q.1 = 0 then (i, q.2) else rlg k (i + 1) q.2
def rl (i : Int32) (s : RS) : Int32 × RS := rlg (901 - i.toNatClampNeg) i s
def fRfStart (t : TP_) (b : TB_) (c : CP_) (x : XP_) : RS := (fBegin 900 t, fForgetB b, fForgetC c, (XP_.w_dt (XP_.w_lt x (0)) (0)))
def fReadFrom (t : TP_) (b : TB_) (c : CP_) (x : XP_) : Int32 × RS := rl 0 (fRfStart t b c x)
def fTable (t : TP_) (b : TB_) (c : CP_) (x : XP_) : Int32 := let q := fReadFrom t b c x; if q.2.1.fault = 0 then q.1 else -1 - q.2.1.fat
def fPutB (v : Int32) (s : TP_) : TP_ := (TP_.w_len (TP_.w_by_ s (up1 s.by_ s.len.toNatClampNeg (vp_nar .byte v.toInt8.toInt32))) (s.len + 1))
def fAdd (w : Int32) (s : TP_) : TP_ :=
  if 940 ≤ s.len then s else
  let s1 := fPutB (w >>> (24 &&& 31)) s
  if 940 ≤ s1.len then s1 else
  let s2 := fPutB (w >>> (16 &&& 31)) s1
  if 940 ≤ s2.len then s2 else
  let s3 := fPutB (w >>> (8 &&& 31)) s2
  if 940 ≤ s3.len then s3 else fPutB (w >>> (0 &&& 31)) s3
def fFeed (a b c d e : Int32) (s : TP_) : Int32 × TP_ :=
  if s.len ≤ 920 then
    let z := fAdd e (fAdd d (fAdd c (fAdd b (fAdd a s))))
    (z.len, z)
  else (-1, s)
/-! loops opened once -/
theorem nn_1 {i : Int32} {h : Int} (r : Rg 0 h i) (h9 : h < 2147483647) : (i + 1).toNatClampNeg = i.toNatClampNeg + 1 := by
  obtain ⟨z, hz, rz, tz⟩ := ex_add (x := i) (y := 1) 1 (h + 1) r (⟨by decide, by decide⟩ : Rg 1 1 (1 : Int32)) rfl rfl (by omega) (by omega)
  rw [hz]
  have e1 : z.toNatClampNeg = z.toInt.toNat := rfl
  have e2 : i.toNatClampNeg = i.toInt.toNat := rfl
  have e3 : (1 : Int32).toInt = 1 := by decide
  have := r.1
  omega
theorem nn_le {i : Int32} {h : Nat} (r : Rg 0 h i) : i.toNatClampNeg ≤ h := by
  have e2 : i.toNatClampNeg = i.toInt.toNat := rfl
  have := r.1
  have := r.2
  omega
theorem tow_eq {wd : Nat → Int64} {w : Int64} {i : Int32} (r : Rg 0 28 i) : tow wd w i = if 28 ≤ i then 100 else if lc_ (wd i.toNatClampNeg) w = 0 then i else tow wd w (i + 1) := by
  have h1 := nn_1 r (by decide)
  have h2 := nn_le (h := 28) r
  unfold tow
  rw [h1, show 29 - i.toNatClampNeg = (29 - (i.toNatClampNeg + 1)) + 1 by omega]
  rfl
theorem fnd_eq {nm : Nat → Int64} {cnt : Int32} {w : Int64} {i : Int32} (r : Rg 0 8 i) : fnd nm cnt w i = if cnt ≤ i then -1 else if lc_ (nm i.toNatClampNeg) w = 0 then i else fnd nm cnt w (i + 1) := by
  have h1 := nn_1 r (by decide)
  have h2 := nn_le (h := 8) r
  unfold fnd
  rw [h1, show 9 - i.toNatClampNeg = (9 - (i.toNatClampNeg + 1)) + 1 by omega]
  rfl
theorem rq_eq {b : Nat → Int32} {len i le dg : Int32} {w : Int64} {nu : Int32} (r : Rg 0 940 i) : rq b len i le dg w nu =
    if len ≤ i then ⟨i, le, dg, w, nu⟩ else if 940 ≤ i then ⟨i, le, dg, w, nu⟩
    else if isLc (b i.toNatClampNeg) = 0 then
      (if isDc (b i.toNatClampNeg) = 0 then ⟨i, le, dg, w, nu⟩ else rq b len (i + 1) le (dg + 1) w (nu * 10 + b i.toNatClampNeg - 48))
    else rq b len (i + 1) (le + 1) dg (wlt w (b i.toNatClampNeg)) nu := by
  have h1 := nn_1 r (by decide)
  have h2 := nn_le (h := 940) r
  unfold rq
  rw [h1, show 941 - i.toNatClampNeg = (941 - (i.toNatClampNeg + 1)) + 1 by omega]
  rfl
theorem bg_eq {bd i be : Int32} {s : TP_} (r : Rg 0 940 i) : bg bd i be s =
    if bd ≤ i then s else if i < be then bg bd (i + 1) be s
    else if s.by_ i.toNatClampNeg = 32 then bg bd (i + 1) be s
    else if s.by_ i.toNatClampNeg = 10 then bg bd (i + 1) be s
    else bg bd (i + 1) (fReadToken i s).1 (fReadToken i s).2 := by
  have h1 := nn_1 r (by decide)
  have h2 := nn_le (h := 940) r
  unfold bg
  rw [h1, show 941 - i.toNatClampNeg = (941 - (i.toNatClampNeg + 1)) + 1 by omega]
  rfl
theorem fz_eq {i : Int32} {c : CP_} (r : Rg 0 42 i) : fz i c = if 42 ≤ i then c else fz (i + 1) (CP_.w_pcs c (up1 c.pcs i.toNatClampNeg 0)) := by
  have h1 := nn_1 r (by decide)
  have h2 := nn_le (h := 42) r
  unfold fz
  rw [h1, show 43 - i.toNatClampNeg = (43 - (i.toNatClampNeg + 1)) + 1 by omega]
  rfl
theorem rl_eq {i : Int32} {s : RS} (r : Rg 0 900 i) : rl i s = if 900 ≤ i then (i, s) else if s.1.token = 102 then (i, s)
    else if (fReadLine s.1 s.2.1 s.2.2.1 s.2.2.2).1 = 0 then (i, (fReadLine s.1 s.2.1 s.2.2.1 s.2.2.2).2) else rl (i + 1) (fReadLine s.1 s.2.1 s.2.2.1 s.2.2.2).2 := by
  have h1 := nn_1 r (by decide)
  have h2 := nn_le (h := 900) r
  unfold rl
  rw [h1, show 901 - i.toNatClampNeg = (901 - (i.toNatClampNeg + 1)) + 1 by omega]
  rfl
theorem lx_e {x y : Int64} {z : Int32} (h : lc_ x y = z) : z = 0 ↔ x = y := by
  subst h
  unfold lc_
  split
  · rename_i q
    exact ⟨fun e => absurd e (by decide), fun e => by subst e; exact absurd q (Int64.lt_irrefl)⟩
  · split
    · rename_i q; exact ⟨fun _ => q, fun _ => rfl⟩
    · rename_i q; exact ⟨fun e => absurd e (by decide), fun e => absurd e q⟩
theorem lx_o {x y : Int64} {z : Int32} (h : lc_ x y = z) : (0 : Int32) ≤ z → y.toInt ≤ x.toInt := by
  subst h
  unfold lc_
  split
  · intro e; exact absurd e (by decide)
  · rename_i q
    intro _
    have := Int64.lt_iff_toInt_lt (x := x) (y := y)
    exact Int.not_lt.mp (fun e => q (this.mpr e))
