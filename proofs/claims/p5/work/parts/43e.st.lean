/-! states as products -/
def up1 {α : Type} (f : Nat → α) (k : Nat) (v : α) : Nat → α := fun j => if j = k then v else f j
theorem up1_s {α : Type} {f : Nat → α} {k : Nat} {v : α} : up1 f k v k = v := by simp [up1]
theorem up1_j {α : Type} {f : Nat → α} {k j : Nat} {v : α} (h : j ≠ k) : up1 f k v j = f j := by simp [up1, h]
abbrev TP_ : Type := (Nat → Int32) × (Nat → Int64) × (Nat → Int32) × (Nat → Int32) × (Nat → Int64) × Int32 × Int32 × Int32 × Int32 × Int32 × Int64 × Int32 × Int32
def TP_.by_ (s : TP_) : (Nat → Int32) := s.1
def TP_.wd (s : TP_) : (Nat → Int64) := s.2.1
def TP_.tk (s : TP_) : (Nat → Int32) := s.2.2.1
def TP_.pl (s : TP_) : (Nat → Int32) := s.2.2.2.1
def TP_.vl (s : TP_) : (Nat → Int64) := s.2.2.2.2.1
def TP_.len (s : TP_) : Int32 := s.2.2.2.2.2.1
def TP_.n (s : TP_) : Int32 := s.2.2.2.2.2.2.1
def TP_.at_ (s : TP_) : Int32 := s.2.2.2.2.2.2.2.1
def TP_.token (s : TP_) : Int32 := s.2.2.2.2.2.2.2.2.1
def TP_.place (s : TP_) : Int32 := s.2.2.2.2.2.2.2.2.2.1
def TP_.value (s : TP_) : Int64 := s.2.2.2.2.2.2.2.2.2.2.1
def TP_.fault (s : TP_) : Int32 := s.2.2.2.2.2.2.2.2.2.2.2.1
def TP_.fat (s : TP_) : Int32 := s.2.2.2.2.2.2.2.2.2.2.2.2
def tqM (a0 : (Nat → Int32)) (a1 : (Nat → Int64)) (a2 : (Nat → Int32)) (a3 : (Nat → Int32)) (a4 : (Nat → Int64)) (a5 : Int32) (a6 : Int32) (a7 : Int32) (a8 : Int32) (a9 : Int32) (a10 : Int64) (a11 : Int32) (a12 : Int32) : TP_ := (a0, a1, a2, a3, a4, a5, a6, a7, a8, a9, a10, a11, a12)
theorem tqM_by_ (a0 : (Nat → Int32)) (a1 : (Nat → Int64)) (a2 : (Nat → Int32)) (a3 : (Nat → Int32)) (a4 : (Nat → Int64)) (a5 : Int32) (a6 : Int32) (a7 : Int32) (a8 : Int32) (a9 : Int32) (a10 : Int64) (a11 : Int32) (a12 : Int32) : TP_.by_ (tqM a0 a1 a2 a3 a4 a5 a6 a7 a8 a9 a10 a11 a12) = a0 := rfl
theorem tqM_wd (a0 : (Nat → Int32)) (a1 : (Nat → Int64)) (a2 : (Nat → Int32)) (a3 : (Nat → Int32)) (a4 : (Nat → Int64)) (a5 : Int32) (a6 : Int32) (a7 : Int32) (a8 : Int32) (a9 : Int32) (a10 : Int64) (a11 : Int32) (a12 : Int32) : TP_.wd (tqM a0 a1 a2 a3 a4 a5 a6 a7 a8 a9 a10 a11 a12) = a1 := rfl
theorem tqM_tk (a0 : (Nat → Int32)) (a1 : (Nat → Int64)) (a2 : (Nat → Int32)) (a3 : (Nat → Int32)) (a4 : (Nat → Int64)) (a5 : Int32) (a6 : Int32) (a7 : Int32) (a8 : Int32) (a9 : Int32) (a10 : Int64) (a11 : Int32) (a12 : Int32) : TP_.tk (tqM a0 a1 a2 a3 a4 a5 a6 a7 a8 a9 a10 a11 a12) = a2 := rfl
theorem tqM_pl (a0 : (Nat → Int32)) (a1 : (Nat → Int64)) (a2 : (Nat → Int32)) (a3 : (Nat → Int32)) (a4 : (Nat → Int64)) (a5 : Int32) (a6 : Int32) (a7 : Int32) (a8 : Int32) (a9 : Int32) (a10 : Int64) (a11 : Int32) (a12 : Int32) : TP_.pl (tqM a0 a1 a2 a3 a4 a5 a6 a7 a8 a9 a10 a11 a12) = a3 := rfl
theorem tqM_vl (a0 : (Nat → Int32)) (a1 : (Nat → Int64)) (a2 : (Nat → Int32)) (a3 : (Nat → Int32)) (a4 : (Nat → Int64)) (a5 : Int32) (a6 : Int32) (a7 : Int32) (a8 : Int32) (a9 : Int32) (a10 : Int64) (a11 : Int32) (a12 : Int32) : TP_.vl (tqM a0 a1 a2 a3 a4 a5 a6 a7 a8 a9 a10 a11 a12) = a4 := rfl
theorem tqM_len (a0 : (Nat → Int32)) (a1 : (Nat → Int64)) (a2 : (Nat → Int32)) (a3 : (Nat → Int32)) (a4 : (Nat → Int64)) (a5 : Int32) (a6 : Int32) (a7 : Int32) (a8 : Int32) (a9 : Int32) (a10 : Int64) (a11 : Int32) (a12 : Int32) : TP_.len (tqM a0 a1 a2 a3 a4 a5 a6 a7 a8 a9 a10 a11 a12) = a5 := rfl
theorem tqM_n (a0 : (Nat → Int32)) (a1 : (Nat → Int64)) (a2 : (Nat → Int32)) (a3 : (Nat → Int32)) (a4 : (Nat → Int64)) (a5 : Int32) (a6 : Int32) (a7 : Int32) (a8 : Int32) (a9 : Int32) (a10 : Int64) (a11 : Int32) (a12 : Int32) : TP_.n (tqM a0 a1 a2 a3 a4 a5 a6 a7 a8 a9 a10 a11 a12) = a6 := rfl
theorem tqM_at_ (a0 : (Nat → Int32)) (a1 : (Nat → Int64)) (a2 : (Nat → Int32)) (a3 : (Nat → Int32)) (a4 : (Nat → Int64)) (a5 : Int32) (a6 : Int32) (a7 : Int32) (a8 : Int32) (a9 : Int32) (a10 : Int64) (a11 : Int32) (a12 : Int32) : TP_.at_ (tqM a0 a1 a2 a3 a4 a5 a6 a7 a8 a9 a10 a11 a12) = a7 := rfl
theorem tqM_token (a0 : (Nat → Int32)) (a1 : (Nat → Int64)) (a2 : (Nat → Int32)) (a3 : (Nat → Int32)) (a4 : (Nat → Int64)) (a5 : Int32) (a6 : Int32) (a7 : Int32) (a8 : Int32) (a9 : Int32) (a10 : Int64) (a11 : Int32) (a12 : Int32) : TP_.token (tqM a0 a1 a2 a3 a4 a5 a6 a7 a8 a9 a10 a11 a12) = a8 := rfl
theorem tqM_place (a0 : (Nat → Int32)) (a1 : (Nat → Int64)) (a2 : (Nat → Int32)) (a3 : (Nat → Int32)) (a4 : (Nat → Int64)) (a5 : Int32) (a6 : Int32) (a7 : Int32) (a8 : Int32) (a9 : Int32) (a10 : Int64) (a11 : Int32) (a12 : Int32) : TP_.place (tqM a0 a1 a2 a3 a4 a5 a6 a7 a8 a9 a10 a11 a12) = a9 := rfl
theorem tqM_value (a0 : (Nat → Int32)) (a1 : (Nat → Int64)) (a2 : (Nat → Int32)) (a3 : (Nat → Int32)) (a4 : (Nat → Int64)) (a5 : Int32) (a6 : Int32) (a7 : Int32) (a8 : Int32) (a9 : Int32) (a10 : Int64) (a11 : Int32) (a12 : Int32) : TP_.value (tqM a0 a1 a2 a3 a4 a5 a6 a7 a8 a9 a10 a11 a12) = a10 := rfl
theorem tqM_fault (a0 : (Nat → Int32)) (a1 : (Nat → Int64)) (a2 : (Nat → Int32)) (a3 : (Nat → Int32)) (a4 : (Nat → Int64)) (a5 : Int32) (a6 : Int32) (a7 : Int32) (a8 : Int32) (a9 : Int32) (a10 : Int64) (a11 : Int32) (a12 : Int32) : TP_.fault (tqM a0 a1 a2 a3 a4 a5 a6 a7 a8 a9 a10 a11 a12) = a11 := rfl
theorem tqM_fat (a0 : (Nat → Int32)) (a1 : (Nat → Int64)) (a2 : (Nat → Int32)) (a3 : (Nat → Int32)) (a4 : (Nat → Int64)) (a5 : Int32) (a6 : Int32) (a7 : Int32) (a8 : Int32) (a9 : Int32) (a10 : Int64) (a11 : Int32) (a12 : Int32) : TP_.fat (tqM a0 a1 a2 a3 a4 a5 a6 a7 a8 a9 a10 a11 a12) = a12 := rfl
def TP_.w_by_ (s : TP_) (v : (Nat → Int32)) : TP_ := tqM v s.wd s.tk s.pl s.vl s.len s.n s.at_ s.token s.place s.value s.fault s.fat
def TP_.w_wd (s : TP_) (v : (Nat → Int64)) : TP_ := tqM s.by_ v s.tk s.pl s.vl s.len s.n s.at_ s.token s.place s.value s.fault s.fat
def TP_.w_tk (s : TP_) (v : (Nat → Int32)) : TP_ := tqM s.by_ s.wd v s.pl s.vl s.len s.n s.at_ s.token s.place s.value s.fault s.fat
def TP_.w_pl (s : TP_) (v : (Nat → Int32)) : TP_ := tqM s.by_ s.wd s.tk v s.vl s.len s.n s.at_ s.token s.place s.value s.fault s.fat
def TP_.w_vl (s : TP_) (v : (Nat → Int64)) : TP_ := tqM s.by_ s.wd s.tk s.pl v s.len s.n s.at_ s.token s.place s.value s.fault s.fat
def TP_.w_len (s : TP_) (v : Int32) : TP_ := tqM s.by_ s.wd s.tk s.pl s.vl v s.n s.at_ s.token s.place s.value s.fault s.fat
def TP_.w_n (s : TP_) (v : Int32) : TP_ := tqM s.by_ s.wd s.tk s.pl s.vl s.len v s.at_ s.token s.place s.value s.fault s.fat
def TP_.w_at_ (s : TP_) (v : Int32) : TP_ := tqM s.by_ s.wd s.tk s.pl s.vl s.len s.n v s.token s.place s.value s.fault s.fat
def TP_.w_token (s : TP_) (v : Int32) : TP_ := tqM s.by_ s.wd s.tk s.pl s.vl s.len s.n s.at_ v s.place s.value s.fault s.fat
def TP_.w_place (s : TP_) (v : Int32) : TP_ := tqM s.by_ s.wd s.tk s.pl s.vl s.len s.n s.at_ s.token v s.value s.fault s.fat
def TP_.w_value (s : TP_) (v : Int64) : TP_ := tqM s.by_ s.wd s.tk s.pl s.vl s.len s.n s.at_ s.token s.place v s.fault s.fat
def TP_.w_fault (s : TP_) (v : Int32) : TP_ := tqM s.by_ s.wd s.tk s.pl s.vl s.len s.n s.at_ s.token s.place s.value v s.fat
def TP_.w_fat (s : TP_) (v : Int32) : TP_ := tqM s.by_ s.wd s.tk s.pl s.vl s.len s.n s.at_ s.token s.place s.value s.fault v
theorem tqM_ext (s : TP_) : tqM s.by_ s.wd s.tk s.pl s.vl s.len s.n s.at_ s.token s.place s.value s.fault s.fat = s := rfl
abbrev TB_ : Type := (Nat → Int64) × (Nat → Int32) × (Nat → Int64) × Int32 × Int32 × Int32 × Int32
def TB_.pnm (s : TB_) : (Nat → Int64) := s.1
def TB_.par (s : TB_) : (Nat → Int32) := s.2.1
def TB_.dnm (s : TB_) : (Nat → Int64) := s.2.2.1
def TB_.persons (s : TB_) : Int32 := s.2.2.2.1
def TB_.dishes (s : TB_) : Int32 := s.2.2.2.2.1
def TB_.law (s : TB_) : Int32 := s.2.2.2.2.2.1
def TB_.dogs (s : TB_) : Int32 := s.2.2.2.2.2.2
def bqM (a0 : (Nat → Int64)) (a1 : (Nat → Int32)) (a2 : (Nat → Int64)) (a3 : Int32) (a4 : Int32) (a5 : Int32) (a6 : Int32) : TB_ := (a0, a1, a2, a3, a4, a5, a6)
theorem bqM_pnm (a0 : (Nat → Int64)) (a1 : (Nat → Int32)) (a2 : (Nat → Int64)) (a3 : Int32) (a4 : Int32) (a5 : Int32) (a6 : Int32) : TB_.pnm (bqM a0 a1 a2 a3 a4 a5 a6) = a0 := rfl
theorem bqM_par (a0 : (Nat → Int64)) (a1 : (Nat → Int32)) (a2 : (Nat → Int64)) (a3 : Int32) (a4 : Int32) (a5 : Int32) (a6 : Int32) : TB_.par (bqM a0 a1 a2 a3 a4 a5 a6) = a1 := rfl
theorem bqM_dnm (a0 : (Nat → Int64)) (a1 : (Nat → Int32)) (a2 : (Nat → Int64)) (a3 : Int32) (a4 : Int32) (a5 : Int32) (a6 : Int32) : TB_.dnm (bqM a0 a1 a2 a3 a4 a5 a6) = a2 := rfl
theorem bqM_persons (a0 : (Nat → Int64)) (a1 : (Nat → Int32)) (a2 : (Nat → Int64)) (a3 : Int32) (a4 : Int32) (a5 : Int32) (a6 : Int32) : TB_.persons (bqM a0 a1 a2 a3 a4 a5 a6) = a3 := rfl
theorem bqM_dishes (a0 : (Nat → Int64)) (a1 : (Nat → Int32)) (a2 : (Nat → Int64)) (a3 : Int32) (a4 : Int32) (a5 : Int32) (a6 : Int32) : TB_.dishes (bqM a0 a1 a2 a3 a4 a5 a6) = a4 := rfl
theorem bqM_law (a0 : (Nat → Int64)) (a1 : (Nat → Int32)) (a2 : (Nat → Int64)) (a3 : Int32) (a4 : Int32) (a5 : Int32) (a6 : Int32) : TB_.law (bqM a0 a1 a2 a3 a4 a5 a6) = a5 := rfl
theorem bqM_dogs (a0 : (Nat → Int64)) (a1 : (Nat → Int32)) (a2 : (Nat → Int64)) (a3 : Int32) (a4 : Int32) (a5 : Int32) (a6 : Int32) : TB_.dogs (bqM a0 a1 a2 a3 a4 a5 a6) = a6 := rfl
def TB_.w_pnm (s : TB_) (v : (Nat → Int64)) : TB_ := bqM v s.par s.dnm s.persons s.dishes s.law s.dogs
def TB_.w_par (s : TB_) (v : (Nat → Int32)) : TB_ := bqM s.pnm v s.dnm s.persons s.dishes s.law s.dogs
def TB_.w_dnm (s : TB_) (v : (Nat → Int64)) : TB_ := bqM s.pnm s.par v s.persons s.dishes s.law s.dogs
def TB_.w_persons (s : TB_) (v : Int32) : TB_ := bqM s.pnm s.par s.dnm v s.dishes s.law s.dogs
def TB_.w_dishes (s : TB_) (v : Int32) : TB_ := bqM s.pnm s.par s.dnm s.persons v s.law s.dogs
def TB_.w_law (s : TB_) (v : Int32) : TB_ := bqM s.pnm s.par s.dnm s.persons s.dishes v s.dogs
def TB_.w_dogs (s : TB_) (v : Int32) : TB_ := bqM s.pnm s.par s.dnm s.persons s.dishes s.law v
theorem bqM_ext (s : TB_) : bqM s.pnm s.par s.dnm s.persons s.dishes s.law s.dogs = s := rfl
abbrev CP_ : Type := (Nat → Int32)
def CP_.pcs (s : CP_) : (Nat → Int32) := s
def cqM (a0 : (Nat → Int32)) : CP_ := (a0)
theorem cqM_pcs (a0 : (Nat → Int32)) : CP_.pcs (cqM a0) = a0 := rfl
def CP_.w_pcs (s : CP_) (v : (Nat → Int32)) : CP_ := cqM v
theorem cqM_ext (s : CP_) : cqM s.pcs = s := rfl
abbrev XP_ : Type := Int32 × Int32
def XP_.lt (s : XP_) : Int32 := s.1
def XP_.dt (s : XP_) : Int32 := s.2
def xqM (a0 : Int32) (a1 : Int32) : XP_ := (a0, a1)
theorem xqM_lt (a0 : Int32) (a1 : Int32) : XP_.lt (xqM a0 a1) = a0 := rfl
theorem xqM_dt (a0 : Int32) (a1 : Int32) : XP_.dt (xqM a0 a1) = a1 := rfl
def XP_.w_lt (s : XP_) (v : Int32) : XP_ := xqM v s.dt
def XP_.w_dt (s : XP_) (v : Int32) : XP_ := xqM s.lt v
theorem xqM_ext (s : XP_) : xqM s.lt s.dt = s := rfl
abbrev MT_ : Type := (Nat → Int32) × Int32 × Int32 × Int32 × Int32 × Int32 × Int32 × Int32 × Int64
def MT_.tp (s : MT_) : (Nat → Int32) := s.1
def MT_.size (s : MT_) : Int32 := s.2.1
def MT_.limit (s : MT_) : Int32 := s.2.2.1
def MT_.to (s : MT_) : Int32 := s.2.2.2.1
def MT_.frm (s : MT_) : Int32 := s.2.2.2.2.1
def MT_.kind (s : MT_) : Int32 := s.2.2.2.2.2.1
def MT_.number (s : MT_) : Int32 := s.2.2.2.2.2.2.1
def MT_.sign (s : MT_) : Int32 := s.2.2.2.2.2.2.2.1
def MT_.word (s : MT_) : Int64 := s.2.2.2.2.2.2.2.2
def mqM (a0 : (Nat → Int32)) (a1 : Int32) (a2 : Int32) (a3 : Int32) (a4 : Int32) (a5 : Int32) (a6 : Int32) (a7 : Int32) (a8 : Int64) : MT_ := (a0, a1, a2, a3, a4, a5, a6, a7, a8)
theorem mqM_tp (a0 : (Nat → Int32)) (a1 : Int32) (a2 : Int32) (a3 : Int32) (a4 : Int32) (a5 : Int32) (a6 : Int32) (a7 : Int32) (a8 : Int64) : MT_.tp (mqM a0 a1 a2 a3 a4 a5 a6 a7 a8) = a0 := rfl
theorem mqM_size (a0 : (Nat → Int32)) (a1 : Int32) (a2 : Int32) (a3 : Int32) (a4 : Int32) (a5 : Int32) (a6 : Int32) (a7 : Int32) (a8 : Int64) : MT_.size (mqM a0 a1 a2 a3 a4 a5 a6 a7 a8) = a1 := rfl
theorem mqM_limit (a0 : (Nat → Int32)) (a1 : Int32) (a2 : Int32) (a3 : Int32) (a4 : Int32) (a5 : Int32) (a6 : Int32) (a7 : Int32) (a8 : Int64) : MT_.limit (mqM a0 a1 a2 a3 a4 a5 a6 a7 a8) = a2 := rfl
theorem mqM_to (a0 : (Nat → Int32)) (a1 : Int32) (a2 : Int32) (a3 : Int32) (a4 : Int32) (a5 : Int32) (a6 : Int32) (a7 : Int32) (a8 : Int64) : MT_.to (mqM a0 a1 a2 a3 a4 a5 a6 a7 a8) = a3 := rfl
theorem mqM_frm (a0 : (Nat → Int32)) (a1 : Int32) (a2 : Int32) (a3 : Int32) (a4 : Int32) (a5 : Int32) (a6 : Int32) (a7 : Int32) (a8 : Int64) : MT_.frm (mqM a0 a1 a2 a3 a4 a5 a6 a7 a8) = a4 := rfl
theorem mqM_kind (a0 : (Nat → Int32)) (a1 : Int32) (a2 : Int32) (a3 : Int32) (a4 : Int32) (a5 : Int32) (a6 : Int32) (a7 : Int32) (a8 : Int64) : MT_.kind (mqM a0 a1 a2 a3 a4 a5 a6 a7 a8) = a5 := rfl
theorem mqM_number (a0 : (Nat → Int32)) (a1 : Int32) (a2 : Int32) (a3 : Int32) (a4 : Int32) (a5 : Int32) (a6 : Int32) (a7 : Int32) (a8 : Int64) : MT_.number (mqM a0 a1 a2 a3 a4 a5 a6 a7 a8) = a6 := rfl
theorem mqM_sign (a0 : (Nat → Int32)) (a1 : Int32) (a2 : Int32) (a3 : Int32) (a4 : Int32) (a5 : Int32) (a6 : Int32) (a7 : Int32) (a8 : Int64) : MT_.sign (mqM a0 a1 a2 a3 a4 a5 a6 a7 a8) = a7 := rfl
theorem mqM_word (a0 : (Nat → Int32)) (a1 : Int32) (a2 : Int32) (a3 : Int32) (a4 : Int32) (a5 : Int32) (a6 : Int32) (a7 : Int32) (a8 : Int64) : MT_.word (mqM a0 a1 a2 a3 a4 a5 a6 a7 a8) = a8 := rfl
def MT_.w_tp (s : MT_) (v : (Nat → Int32)) : MT_ := mqM v s.size s.limit s.to s.frm s.kind s.number s.sign s.word
def MT_.w_size (s : MT_) (v : Int32) : MT_ := mqM s.tp v s.limit s.to s.frm s.kind s.number s.sign s.word
def MT_.w_limit (s : MT_) (v : Int32) : MT_ := mqM s.tp s.size v s.to s.frm s.kind s.number s.sign s.word
def MT_.w_to (s : MT_) (v : Int32) : MT_ := mqM s.tp s.size s.limit v s.frm s.kind s.number s.sign s.word
def MT_.w_frm (s : MT_) (v : Int32) : MT_ := mqM s.tp s.size s.limit s.to v s.kind s.number s.sign s.word
def MT_.w_kind (s : MT_) (v : Int32) : MT_ := mqM s.tp s.size s.limit s.to s.frm v s.number s.sign s.word
def MT_.w_number (s : MT_) (v : Int32) : MT_ := mqM s.tp s.size s.limit s.to s.frm s.kind v s.sign s.word
def MT_.w_sign (s : MT_) (v : Int32) : MT_ := mqM s.tp s.size s.limit s.to s.frm s.kind s.number v s.word
def MT_.w_word (s : MT_) (v : Int64) : MT_ := mqM s.tp s.size s.limit s.to s.frm s.kind s.number s.sign v
theorem mqM_ext (s : MT_) : mqM s.tp s.size s.limit s.to s.frm s.kind s.number s.sign s.word = s := rfl
abbrev NR_ : Type := (Nat → Int32) × (Nat → Int64) × Int32 × Int32 × Int32 × Int32 × Int32 × Int32
def NR_.rd (s : NR_) : (Nat → Int32) := s.1
def NR_.rn (s : NR_) : (Nat → Int64) := s.2.1
def NR_.taped (s : NR_) : Int32 := s.2.2.1
def NR_.mfault (s : NR_) : Int32 := s.2.2.2.1
def NR_.mplace (s : NR_) : Int32 := s.2.2.2.2.1
def NR_.told (s : NR_) : Int32 := s.2.2.2.2.2.1
def NR_.hl (s : NR_) : Int32 := s.2.2.2.2.2.2.1
def NR_.hd (s : NR_) : Int32 := s.2.2.2.2.2.2.2
def nqM (a0 : (Nat → Int32)) (a1 : (Nat → Int64)) (a2 : Int32) (a3 : Int32) (a4 : Int32) (a5 : Int32) (a6 : Int32) (a7 : Int32) : NR_ := (a0, a1, a2, a3, a4, a5, a6, a7)
theorem nqM_rd (a0 : (Nat → Int32)) (a1 : (Nat → Int64)) (a2 : Int32) (a3 : Int32) (a4 : Int32) (a5 : Int32) (a6 : Int32) (a7 : Int32) : NR_.rd (nqM a0 a1 a2 a3 a4 a5 a6 a7) = a0 := rfl
theorem nqM_rn (a0 : (Nat → Int32)) (a1 : (Nat → Int64)) (a2 : Int32) (a3 : Int32) (a4 : Int32) (a5 : Int32) (a6 : Int32) (a7 : Int32) : NR_.rn (nqM a0 a1 a2 a3 a4 a5 a6 a7) = a1 := rfl
theorem nqM_taped (a0 : (Nat → Int32)) (a1 : (Nat → Int64)) (a2 : Int32) (a3 : Int32) (a4 : Int32) (a5 : Int32) (a6 : Int32) (a7 : Int32) : NR_.taped (nqM a0 a1 a2 a3 a4 a5 a6 a7) = a2 := rfl
theorem nqM_mfault (a0 : (Nat → Int32)) (a1 : (Nat → Int64)) (a2 : Int32) (a3 : Int32) (a4 : Int32) (a5 : Int32) (a6 : Int32) (a7 : Int32) : NR_.mfault (nqM a0 a1 a2 a3 a4 a5 a6 a7) = a3 := rfl
theorem nqM_mplace (a0 : (Nat → Int32)) (a1 : (Nat → Int64)) (a2 : Int32) (a3 : Int32) (a4 : Int32) (a5 : Int32) (a6 : Int32) (a7 : Int32) : NR_.mplace (nqM a0 a1 a2 a3 a4 a5 a6 a7) = a4 := rfl
theorem nqM_told (a0 : (Nat → Int32)) (a1 : (Nat → Int64)) (a2 : Int32) (a3 : Int32) (a4 : Int32) (a5 : Int32) (a6 : Int32) (a7 : Int32) : NR_.told (nqM a0 a1 a2 a3 a4 a5 a6 a7) = a5 := rfl
theorem nqM_hl (a0 : (Nat → Int32)) (a1 : (Nat → Int64)) (a2 : Int32) (a3 : Int32) (a4 : Int32) (a5 : Int32) (a6 : Int32) (a7 : Int32) : NR_.hl (nqM a0 a1 a2 a3 a4 a5 a6 a7) = a6 := rfl
theorem nqM_hd (a0 : (Nat → Int32)) (a1 : (Nat → Int64)) (a2 : Int32) (a3 : Int32) (a4 : Int32) (a5 : Int32) (a6 : Int32) (a7 : Int32) : NR_.hd (nqM a0 a1 a2 a3 a4 a5 a6 a7) = a7 := rfl
def NR_.w_rd (s : NR_) (v : (Nat → Int32)) : NR_ := nqM v s.rn s.taped s.mfault s.mplace s.told s.hl s.hd
def NR_.w_rn (s : NR_) (v : (Nat → Int64)) : NR_ := nqM s.rd v s.taped s.mfault s.mplace s.told s.hl s.hd
def NR_.w_taped (s : NR_) (v : Int32) : NR_ := nqM s.rd s.rn v s.mfault s.mplace s.told s.hl s.hd
def NR_.w_mfault (s : NR_) (v : Int32) : NR_ := nqM s.rd s.rn s.taped v s.mplace s.told s.hl s.hd
def NR_.w_mplace (s : NR_) (v : Int32) : NR_ := nqM s.rd s.rn s.taped s.mfault v s.told s.hl s.hd
def NR_.w_told (s : NR_) (v : Int32) : NR_ := nqM s.rd s.rn s.taped s.mfault s.mplace v s.hl s.hd
def NR_.w_hl (s : NR_) (v : Int32) : NR_ := nqM s.rd s.rn s.taped s.mfault s.mplace s.told v s.hd
def NR_.w_hd (s : NR_) (v : Int32) : NR_ := nqM s.rd s.rn s.taped s.mfault s.mplace s.told s.hl v
theorem nqM_ext (s : NR_) : nqM s.rd s.rn s.taped s.mfault s.mplace s.told s.hl s.hd = s := rfl
abbrev NW_ : Type := (Nat → Int32)
def NW_.nw (s : NW_) : (Nat → Int32) := s
def zqM (a0 : (Nat → Int32)) : NW_ := (a0)
theorem zqM_nw (a0 : (Nat → Int32)) : NW_.nw (zqM a0) = a0 := rfl
def NW_.w_nw (s : NW_) (v : (Nat → Int32)) : NW_ := zqM v
theorem zqM_ext (s : NW_) : zqM s.nw = s := rfl
abbrev NV_ : Type := (Nat → Int64)
def NV_.nv (s : NV_) : (Nat → Int64) := s
def vqM (a0 : (Nat → Int64)) : NV_ := (a0)
theorem vqM_nv (a0 : (Nat → Int64)) : NV_.nv (vqM a0) = a0 := rfl
def NV_.w_nv (s : NV_) (v : (Nat → Int64)) : NV_ := vqM v
theorem vqM_ext (s : NV_) : vqM s.nv = s := rfl
abbrev QT_ : Type := Int32
def QT_.om (s : QT_) : Int32 := s
def qqM (a0 : Int32) : QT_ := (a0)
theorem qqM_om (a0 : Int32) : QT_.om (qqM a0) = a0 := rfl
def QT_.w_om (s : QT_) (v : Int32) : QT_ := qqM v
theorem qqM_ext (s : QT_) : qqM s.om = s := rfl
abbrev SP_ : Type := Int32 × Int32
def SP_.sl (s : SP_) : Int32 := s.1
def SP_.so (s : SP_) : Int32 := s.2
def sqM (a0 : Int32) (a1 : Int32) : SP_ := (a0, a1)
theorem sqM_sl (a0 : Int32) (a1 : Int32) : SP_.sl (sqM a0 a1) = a0 := rfl
theorem sqM_so (a0 : Int32) (a1 : Int32) : SP_.so (sqM a0 a1) = a1 := rfl
def SP_.w_sl (s : SP_) (v : Int32) : SP_ := sqM v s.so
def SP_.w_so (s : SP_) (v : Int32) : SP_ := sqM s.sl v
theorem sqM_ext (s : SP_) : sqM s.sl s.so = s := rfl
abbrev KP_ : Type := (Nat → Int32) × Int32
def KP_.bw (s : KP_) : (Nat → Int32) := s.1
def KP_.bl (s : KP_) : Int32 := s.2
def yqM (a0 : (Nat → Int32)) (a1 : Int32) : KP_ := (a0, a1)
theorem yqM_bw (a0 : (Nat → Int32)) (a1 : Int32) : KP_.bw (yqM a0 a1) = a0 := rfl
theorem yqM_bl (a0 : (Nat → Int32)) (a1 : Int32) : KP_.bl (yqM a0 a1) = a1 := rfl
def KP_.w_bw (s : KP_) (v : (Nat → Int32)) : KP_ := yqM v s.bl
def KP_.w_bl (s : KP_) (v : Int32) : KP_ := yqM s.bw v
theorem yqM_ext (s : KP_) : yqM s.bw s.bl = s := rfl
abbrev YT_ : Type := Int32
def YT_.blm (s : YT_) : Int32 := s
def uqM (a0 : Int32) : YT_ := (a0)
theorem uqM_blm (a0 : Int32) : YT_.blm (uqM a0) = a0 := rfl
def YT_.w_blm (s : YT_) (v : Int32) : YT_ := uqM v
theorem uqM_ext (s : YT_) : uqM s.blm = s := rfl
