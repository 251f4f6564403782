/-! the reference's pile against the machine's stack -/
def tkO (x : Int) : Int := (tokOf x 0).1
def KJ (ts : Bool) (R : List Int) : List Int → List Int × List Int
  | [] => (if ts = true then 721 :: 715 :: 713 :: 711 :: R else 721 :: R, 713 :: 711 :: R)
  | x :: P => if x = 31 then (721 :: 125 :: (KJ ts R P).1, 721 :: 125 :: (KJ ts R P).1)
    else if x = 30 then (721 :: 715 :: 713 :: 711 :: 73 :: (KJ ts R P).2, 713 :: 711 :: 73 :: (KJ ts R P).2)
    else if x = 29 then (721 :: 715 :: 713 :: 416 :: 711 :: (KJ ts R P).2.drop 2, 713 :: 416 :: 711 :: (KJ ts R P).2.drop 2)
    else if x = 28 then (721 :: 715 :: 417 :: (KJ ts R P).2, 417 :: (KJ ts R P).2)
    else if x = 27 then (721 :: 715 :: 418 :: (KJ ts R P).2, 418 :: (KJ ts R P).2)
    else if 24 ≤ x then (721 :: (400 + tkO x) :: (KJ ts R P).2, 721 :: (400 + tkO x) :: (KJ ts R P).2)
    else ((400 + tkO x) :: (KJ ts R P).1, (400 + tkO x) :: (KJ ts R P).1)
abbrev Jst (ts : Bool) (R P : List Int) : List Int := (KJ ts R P).1
abbrev Kst (ts : Bool) (R P : List Int) : List Int := (KJ ts R P).2
theorem KJ_len {ts : Bool} {R : List Int} : ∀ P : List Int, (Jst ts R P).length ≤ 4 * P.length + 4 + R.length ∧ (Kst ts R P).length ≤ 4 * P.length + 3 + R.length
  | [] => by
    constructor
    · show (if ts = true then 721 :: 715 :: 713 :: 711 :: R else 721 :: R).length ≤ _
      split <;> simp <;> omega
    · show (713 :: 711 :: R).length ≤ _
      simp; omega
  | x :: P => by
    obtain ⟨h1, h2⟩ := KJ_len (ts := ts) (R := R) P
    unfold Jst Kst at *
    have h3 : ((KJ ts R P).2.drop 2).length ≤ 4 * P.length + 3 + R.length := by rw [List.length_drop]; omega
    rw [KJ, List.length_cons]
    repeat' split
    all_goals (simp only [List.length_cons]; omega)
/-- above a pile's bracket nothing but what has been opened by it -/
def hdO (P : List Int) : Prop := P = [] ∨ (∃ Q, P = 30 :: Q) ∨ ∃ Q, P = 29 :: Q
def hdB (P : List Int) : Prop := P = [] ∨ ∃ Q, P = 30 :: Q
/-- a pile where a test is awaited -/
def PlT (ts : Bool) : List Int → Prop
  | [] => ts = true
  | x :: P => PlT ts P ∧ (x = 30 ∨ x = 27 ∨ (x = 28 ∧ hdO P) ∨ (x = 29 ∧ hdB P))
def isS (x : Int) : Prop := x = 20 ∨ x = 21
def hdS (P : List Int) : Prop := ∃ x Q, P = x :: Q ∧ isS x
/-- a pile where a sum's part is awaited -/
def PsT (ts : Bool) : List Int → Prop
  | [] => True
  | x :: P => (x = 31 ∧ PsT ts P) ∨ ((24 ≤ x ∧ x ≤ 26) ∧ PlT ts P) ∨ (isS x ∧ PsT ts P ∧ ¬ hdS P) ∨ (PlT ts P ∧ (x = 30 ∨ x = 27 ∨ (x = 28 ∧ hdO P) ∨ (x = 29 ∧ hdB P)))
/-- a pile behind a test -/
def TdT (ts : Bool) (P : List Int) : Prop := PlT ts P ∨ (∃ x Q, P = x :: Q ∧ (24 ≤ x ∧ x ≤ 26) ∧ PlT ts Q) ∨ ∃ y x Q, P = y :: x :: Q ∧ isS y ∧ (24 ≤ x ∧ x ≤ 26) ∧ PlT ts Q
theorem PlT.ps {ts : Bool} : ∀ {P : List Int}, PlT ts P → PsT ts P
  | [], _ => trivial
  | _ :: _, h => Or.inr (Or.inr (Or.inr h))
theorem PlT.hd {ts : Bool} {P : List Int} (h : PlT ts P) : ¬ hdS P := by
  rintro ⟨x, Q, rfl, hx⟩
  have := h.2
  unfold isS at hx
  omega
theorem PlT_false {P : List Int} (h : PlT false P) : False := by
  induction P with
  | nil => cases h
  | cons x P ih => exact ih h.1
theorem PlT.J {ts : Bool} {R : List Int} : ∀ {P : List Int}, PlT ts P → Jst ts R P = 721 :: 715 :: Kst ts R P
  | [], h => by
    have h : ts = true := h
    show (if ts = true then 721 :: 715 :: 713 :: 711 :: R else 721 :: R) = _
    rw [if_pos h]
    rfl
  | x :: P, h => by
    unfold Jst Kst
    rw [KJ]
    rcases h.2 with z | z | z | z
    · rw [if_neg (by omega), if_pos z]
    · rw [if_neg (by omega), if_neg (by omega), if_neg (by omega), if_neg (by omega), if_pos z]
    · rw [if_neg (by omega), if_neg (by omega), if_neg (by omega), if_pos z.1]
    · rw [if_neg (by omega), if_neg (by omega), if_pos z.1]
theorem K_30 {ts : Bool} {R P : List Int} : Kst ts R (30 :: P) = 713 :: 711 :: 73 :: Kst ts R P := rfl
theorem K_29 {ts : Bool} {R P : List Int} : Kst ts R (29 :: P) = 713 :: 416 :: 711 :: (Kst ts R P).drop 2 := rfl
theorem K_28 {ts : Bool} {R P : List Int} : Kst ts R (28 :: P) = 417 :: Kst ts R P := rfl
theorem K_27 {ts : Bool} {R P : List Int} : Kst ts R (27 :: P) = 418 :: Kst ts R P := rfl
theorem K_cmp {ts : Bool} {R P : List Int} {x : Int} (h : 24 ≤ x ∧ x ≤ 26) : Kst ts R (x :: P) = 721 :: (400 + tkO x) :: Kst ts R P := by
  unfold Kst; rw [KJ, if_neg (by omega), if_neg (by omega), if_neg (by omega), if_neg (by omega), if_neg (by omega), if_pos h.1]
theorem J_cmp {ts : Bool} {R P : List Int} {x : Int} (h : 24 ≤ x ∧ x ≤ 26) : Jst ts R (x :: P) = 721 :: (400 + tkO x) :: Kst ts R P := by
  unfold Jst; rw [KJ, if_neg (by omega), if_neg (by omega), if_neg (by omega), if_neg (by omega), if_neg (by omega), if_pos h.1]
theorem J_s {ts : Bool} {R P : List Int} {x : Int} (h : isS x) : Jst ts R (x :: P) = (400 + tkO x) :: Jst ts R P := by
  unfold isS at h
  unfold Jst; rw [KJ, if_neg (by omega), if_neg (by omega), if_neg (by omega), if_neg (by omega), if_neg (by omega), if_neg (by omega)]
theorem K_s {ts : Bool} {R P : List Int} {x : Int} (h : isS x) : Kst ts R (x :: P) = (400 + tkO x) :: Jst ts R P := by
  unfold isS at h
  unfold Kst; rw [KJ, if_neg (by omega), if_neg (by omega), if_neg (by omega), if_neg (by omega), if_neg (by omega), if_neg (by omega)]
theorem J_31 {ts : Bool} {R P : List Int} : Jst ts R (31 :: P) = 721 :: 125 :: Jst ts R P := rfl
/-- what a sum's end begins with -/
theorem J_721 {ts : Bool} {R : List Int} : ∀ {P : List Int}, PsT ts P → ¬ hdS P → ∃ T, Jst ts R P = 721 :: T
  | [], _, _ => by
    show ∃ T, (if ts = true then 721 :: 715 :: 713 :: 711 :: R else 721 :: R) = 721 :: T
    split
    · exact ⟨_, rfl⟩
    · exact ⟨_, rfl⟩
  | x :: P, h, hn => by
    rcases h with z | z | z | z
    · rw [z.1]; exact ⟨_, J_31⟩
    · exact ⟨_, J_cmp z.1⟩
    · exact absurd ⟨x, P, rfl, z.1⟩ hn
    · exact ⟨_, PlT.J (P := x :: P) z⟩
theorem K_713 {ts : Bool} {R P : List Int} (h : hdO P) : ∃ T, Kst ts R P = 713 :: T := by
  rcases h with z | ⟨Q, z⟩ | ⟨Q, z⟩
  · subst z; exact ⟨_, rfl⟩
  · subst z; exact ⟨_, K_30⟩
  · subst z; exact ⟨_, K_29⟩
theorem K_711 {ts : Bool} {R P : List Int} (h : hdB P) : Kst ts R P = 713 :: 711 :: (Kst ts R P).drop 2 := by
  rcases h with z | ⟨Q, z⟩
  · subst z; rfl
  · subst z; rfl
theorem bnd_s {x : Int} (h : isS x) : bnd x = 5 := by
  unfold isS at h
  unfold bnd; rw [if_neg (by omega), if_neg (by omega), if_neg (by omega), if_neg (by omega), if_neg (by omega)]
theorem bnd_c {x : Int} (h : 24 ≤ x ∧ x ≤ 26) : bnd x = 4 := by
  unfold bnd; rw [if_neg (by omega), if_neg (by omega), if_neg (by omega), if_neg (by omega), if_pos h.1]
theorem tkO_s {x : Int} (h : isS x) : tokOf x 0 = (tkO x, 0) ∧ (400 ≤ 400 + tkO x ∧ 400 + tkO x < 700) := by
  rcases h with z | z <;> subst z <;> exact ⟨rfl, by decide, by decide⟩
theorem tkO_c {x : Int} (h : 24 ≤ x ∧ x ≤ 26) : tokOf x 0 = (tkO x, 0) ∧ (400 ≤ 400 + tkO x ∧ 400 + tkO x < 700) := by
  have : x = 24 ∨ x = 25 ∨ x = 26 := by omega
  rcases this with z | z | z <;> subst z <;> exact ⟨rfl, by decide, by decide⟩
theorem not_l5 {x : Int} (h : ¬ isS x) (h2 : 20 ≤ x ∧ x ≤ 31) (h3 : x ≠ 22 ∧ x ≠ 23) : bnd x < 5 := by
  unfold isS at h
  unfold bnd
  repeat' split
  all_goals omega
theorem PsT.el {ts : Bool} {x : Int} {P : List Int} (h : PsT ts (x :: P)) : 20 ≤ x ∧ x ≤ 31 ∧ x ≠ 22 ∧ x ≠ 23 := by
  rcases h with z | z | z | z
  · omega
  · omega
  · have := z.1; unfold isS at this; omega
  · omega
theorem opr5 {ts : Bool} : ∀ {P : List Int}, PsT ts P → PsT ts (opr P 5) ∧ ¬ hdS (opr P 5) ∧ ((opr P 5 = P ∧ opn P 5 = []) ∨ ∃ x, isS x ∧ P = x :: opr P 5 ∧ opn P 5 = [x])
  | [], _ => ⟨trivial, fun ⟨x, Q, z, _⟩ => (by cases z), Or.inl ⟨rfl, rfl⟩⟩
  | x :: P, h => by
    by_cases hx : isS x
    · obtain ⟨h1, h2⟩ : PsT ts P ∧ ¬ hdS P := by
        rcases h with z | z | z | z
        · unfold isS at hx; omega
        · unfold isS at hx; omega
        · exact ⟨z.2.1, z.2.2⟩
        · unfold isS at hx; omega
      have e : opr P 5 = P ∧ opn P 5 = [] := by
        cases P with
        | nil => exact ⟨rfl, rfl⟩
        | cons y P =>
          have hy := h1.el
          have := not_l5 (x := y) (fun z => h2 ⟨y, P, rfl, z⟩) ⟨hy.1, hy.2.1⟩ hy.2.2
          rw [opr, opn, if_neg (by omega), if_neg (by omega)]
          exact ⟨rfl, rfl⟩
      have e1 : opr (x :: P) 5 = P := by rw [opr, if_pos (by rw [bnd_s hx]; omega), e.1]
      have e2 : opn (x :: P) 5 = [x] := by rw [opn, if_pos (by rw [bnd_s hx]; omega), e.2]
      rw [e1, e2]
      exact ⟨h1, h2, Or.inr ⟨x, hx, rfl, rfl⟩⟩
    · have hy := h.el
      have := not_l5 hx ⟨hy.1, hy.2.1⟩ hy.2.2
      have e1 : opr (x :: P) 5 = x :: P := by rw [opr, if_neg (by omega)]
      have e2 : opn (x :: P) 5 = [] := by rw [opn, if_neg (by omega)]
      rw [e1, e2]
      exact ⟨h, fun ⟨y, Q, z, w⟩ => by injection z with z1 _; rw [← z1] at w; exact hx w, Or.inl ⟨rfl, rfl⟩⟩
section MKJ
variable {tk nu nx : Int → Int} {o f u b tg e : Int} {pp v : List CT} {ts : Bool} {R : List Int}
theorem mJ5 {P : List Int} {c : List CT} (h : PsT ts P) (hl : 4 * P.length + R.length ≤ 240) : Rh tk nu nx o 1 (f, u, b, -1, Jst ts R P, tg, e, pp, v, c) (f, u, b, -1, Jst ts R (opr P 5), tg, e, pp, v, c ++ (opn P 5).map (fun x => tokOf x 0)) := by
  rcases (opr5 h).2.2 with ⟨z1, z2⟩ | ⟨x, hx, z1, z2⟩
  · rw [z1, z2]
    show Rh tk nu nx o 1 _ (f, u, b, -1, Jst ts R P, tg, e, pp, v, c ++ [])
    rw [List.append_nil]
    exact Rh.rf
  · obtain ⟨t1, t2⟩ := tkO_s hx
    have hlen := (KJ_len (ts := ts) (R := R) (opr P 5)).1
    have hl2 : P.length = (opr P 5).length + 1 := by rw [z1, List.length_cons, ← z1]
    rw [z2, show Jst ts R P = (400 + tkO x) :: Jst ts R (opr P 5) by rw [← J_s hx, ← z1]]
    have := emt (tk := tk) (nu := nu) (nx := nx) (o := o) (f := f) (u := u) (b' := b) (y := 400 + tkO x) (tg := tg) (e := e) (r := Jst ts R (opr P 5)) (pp := pp) (v := v) (c := c) t2.1 t2.2 (by omega)
    rw [show 400 + tkO x - 400 = tkO x by omega, ← t1] at this
    exact this
/-- pops of a test's operators, but or -/
theorem mK2 (hx17 : tk f = 17) : ∀ {P : List Int} {c : List CT}, PlT ts P → 4 * P.length + R.length ≤ 240 → PlT ts (opr P 2) ∧ hdO (opr P 2) ∧ (opn P 2).length + (opr P 2).length = P.length ∧ Rh tk nu nx o (2 * (opn P 2).length) (f, u, b, -1, Kst ts R P, tg, e, pp, v, c) (f, u, b, -1, Kst ts R (opr P 2), tg, e, pp, v, c ++ (opn P 2).map (fun x => tokOf x 0))
  | [], c, h, hl => by
    refine ⟨h, Or.inl rfl, rfl, ?_⟩
    show Rh tk nu nx o 0 _ (f, u, b, -1, Kst ts R [], tg, e, pp, v, c ++ [])
    rw [List.append_nil]
    exact Rh.rf
  | x :: P, c, h, hl => by
    rw [List.length_cons] at hl
    have hlen := (KJ_len (ts := ts) (R := R) P).2
    have stop : bnd x < 2 → hdO (x :: P) → PlT ts (opr (x :: P) 2) ∧ hdO (opr (x :: P) 2) ∧ (opn (x :: P) 2).length + (opr (x :: P) 2).length = (x :: P).length ∧ Rh tk nu nx o (2 * (opn (x :: P) 2).length) (f, u, b, -1, Kst ts R (x :: P), tg, e, pp, v, c) (f, u, b, -1, Kst ts R (opr (x :: P) 2), tg, e, pp, v, c ++ (opn (x :: P) 2).map (fun x => tokOf x 0)) := fun hb hh => by
      have e1 : opr (x :: P) 2 = x :: P := by rw [opr, if_neg (by omega)]
      have e2 : opn (x :: P) 2 = [] := by rw [opn, if_neg (by omega)]
      rw [e1, e2]
      refine ⟨h, hh, by simp, ?_⟩
      show Rh tk nu nx o 0 _ (f, u, b, -1, Kst ts R (x :: P), tg, e, pp, v, c ++ [])
      rw [List.append_nil]
      exact Rh.rf
    have pop : 2 ≤ bnd x → 400 ≤ 400 + tkO x → 400 + tkO x < 700 → tokOf x 0 = (tkO x, 0) → Kst ts R (x :: P) = (400 + tkO x) :: Kst ts R P → PlT ts (opr (x :: P) 2) ∧ hdO (opr (x :: P) 2) ∧ (opn (x :: P) 2).length + (opr (x :: P) 2).length = (x :: P).length ∧ Rh tk nu nx o (2 * (opn (x :: P) 2).length) (f, u, b, -1, Kst ts R (x :: P), tg, e, pp, v, c) (f, u, b, -1, Kst ts R (opr (x :: P) 2), tg, e, pp, v, c ++ (opn (x :: P) 2).map (fun x => tokOf x 0)) := fun hb t1 t2 t3 hK => by
      have e1 : opr (x :: P) 2 = opr P 2 := by rw [opr, if_pos hb]
      have e2 : opn (x :: P) 2 = x :: opn P 2 := by rw [opn, if_pos hb]
      obtain ⟨i1, i2, i3, i4⟩ := mK2 hx17 (P := P) (c := c ++ [tokOf x 0]) h.1 (by omega)
      rw [e1, e2, hK]
      refine ⟨i1, i2, by simp; omega, ?_⟩
      have := emt (tk := tk) (nu := nu) (nx := nx) (o := o) (f := f) (u := u) (b' := b) (y := 400 + tkO x) (tg := tg) (e := e) (r := Kst ts R P) (pp := pp) (v := v) (c := c) t1 t2 (by omega)
      rw [show 400 + tkO x - 400 = tkO x by omega, ← t3] at this
      have := (this.tr i4).mono (b := 2 * (x :: opn P 2).length) (by rw [List.length_cons]; omega)
      rw [List.append_assoc] at this
      exact this
    rcases h.2 with z | z | z | z
    · subst z; exact stop (by decide) (Or.inr (Or.inl ⟨P, rfl⟩))
    · subst z; exact pop (by decide) (by decide) (by decide) rfl rfl
    · obtain ⟨z, _⟩ := z
      subst z; exact pop (by decide) (by decide) (by decide) rfl rfl
    · obtain ⟨z, _⟩ := z
      subst z; exact stop (by decide) (Or.inr (Or.inr ⟨P, rfl⟩))
theorem mK1 (hx17 : tk f ≠ 17) : ∀ {P : List Int} {c : List CT}, PlT ts P → 4 * P.length + R.length ≤ 240 → PlT ts (opr P 1) ∧ hdB (opr P 1) ∧ (opn P 1).length + (opr P 1).length = P.length ∧ Rh tk nu nx o (2 * (opn P 1).length + 1) (f, u, b, -1, Kst ts R P, tg, e, pp, v, c) (f, u, b, -1, 711 :: (Kst ts R (opr P 1)).drop 2, tg, e, pp, v, c ++ (opn P 1).map (fun x => tokOf x 0))
  | [], c, h, hl => by
    refine ⟨h, Or.inl rfl, rfl, ?_⟩
    show Rh tk nu nx o 1 (f, u, b, -1, 713 :: 711 :: R, tg, e, pp, v, c) (f, u, b, -1, 711 :: R, tg, e, pp, v, c ++ [])
    rw [List.append_nil]
    exact rul_0 (L := []) (by decide) (by rw [List.length_cons]; rw [List.length_nil] at hl; omega) (by rw [prd_713, if_neg hx17])
  | x :: P, c, h, hl => by
    rw [List.length_cons] at hl
    have hlen := (KJ_len (ts := ts) (R := R) P).2
    have pop : 1 ≤ bnd x → 400 ≤ 400 + tkO x → 400 + tkO x < 700 → tokOf x 0 = (tkO x, 0) → Kst ts R (x :: P) = (400 + tkO x) :: Kst ts R P → PlT ts (opr (x :: P) 1) ∧ hdB (opr (x :: P) 1) ∧ (opn (x :: P) 1).length + (opr (x :: P) 1).length = (x :: P).length ∧ Rh tk nu nx o (2 * (opn (x :: P) 1).length + 1) (f, u, b, -1, Kst ts R (x :: P), tg, e, pp, v, c) (f, u, b, -1, 711 :: (Kst ts R (opr (x :: P) 1)).drop 2, tg, e, pp, v, c ++ (opn (x :: P) 1).map (fun x => tokOf x 0)) := fun hb t1 t2 t3 hK => by
      have e1 : opr (x :: P) 1 = opr P 1 := by rw [opr, if_pos hb]
      have e2 : opn (x :: P) 1 = x :: opn P 1 := by rw [opn, if_pos hb]
      obtain ⟨i1, i2, i3, i4⟩ := mK1 hx17 (P := P) (c := c ++ [tokOf x 0]) h.1 (by omega)
      rw [e1, e2, hK]
      refine ⟨i1, i2, by simp; omega, ?_⟩
      have := emt (tk := tk) (nu := nu) (nx := nx) (o := o) (f := f) (u := u) (b' := b) (y := 400 + tkO x) (tg := tg) (e := e) (r := Kst ts R P) (pp := pp) (v := v) (c := c) t1 t2 (by omega)
      rw [show 400 + tkO x - 400 = tkO x by omega, ← t3] at this
      have := (this.tr i4).mono (b := 2 * (x :: opn P 1).length + 1) (by rw [List.length_cons]; omega)
      rw [List.append_assoc] at this
      exact this
    rcases h.2 with z | z | z | z
    · subst z
      have e1 : opr (30 :: P) 1 = 30 :: P := by rw [opr, if_neg (by decide)]
      have e2 : opn (30 :: P) 1 = [] := by rw [opn, if_neg (by decide)]
      rw [e1, e2]
      refine ⟨h, Or.inr ⟨P, rfl⟩, by simp, ?_⟩
      show Rh tk nu nx o 1 (f, u, b, -1, 713 :: 711 :: 73 :: Kst ts R P, tg, e, pp, v, c) (f, u, b, -1, 711 :: 73 :: Kst ts R P, tg, e, pp, v, c ++ [])
      rw [List.append_nil]
      exact rul_0 (L := []) (by decide) (by rw [List.length_cons, List.length_cons]; omega) (by rw [prd_713, if_neg hx17])
    · subst z; exact pop (by decide) (by decide) (by decide) rfl rfl
    · obtain ⟨z, _⟩ := z
      subst z; exact pop (by decide) (by decide) (by decide) rfl rfl
    · obtain ⟨z, hB⟩ := z
      subst z
      have e0 : opr P 1 = P ∧ opn P 1 = [] := by
        rcases hB with w | ⟨Q, w⟩
        · subst w; exact ⟨rfl, rfl⟩
        · subst w; rw [opr, opn, if_neg (by decide), if_neg (by decide)]; exact ⟨rfl, rfl⟩
      have e1 : opr (29 :: P) 1 = P := by rw [opr, if_pos (by decide), e0.1]
      have e2 : opn (29 :: P) 1 = [29] := by rw [opn, if_pos (by decide), e0.2]
      rw [e1, e2, K_29]
      have hd2 : ((Kst ts R P).drop 2).length ≤ (Kst ts R P).length := by rw [List.length_drop]; omega
      refine ⟨h.1, hB, by simp; omega, ?_⟩
      have m1 := rul_0 (tk := tk) (nu := nu) (nx := nx) (o := o) (f := f) (u := u) (b' := b) (y := 713) (tg := tg) (e := e) (L := []) (r := 416 :: 711 :: (Kst ts R P).drop 2) (pp := pp) (v := v) (c := c) (by decide) (by rw [List.length_cons, List.length_cons]; omega) (by rw [prd_713, if_neg hx17])
      have m2 := emt (tk := tk) (nu := nu) (nx := nx) (o := o) (f := f) (u := u) (b' := b) (y := 416) (tg := tg) (e := e) (r := 711 :: (Kst ts R P).drop 2) (pp := pp) (v := v) (c := c) (by decide) (by decide) (by rw [List.length_cons]; omega)
      exact (m1.tr m2).mono (by show 1 + 1 ≤ 2 * 1 + 1; omega)
/-- the same behind a comparison -/
theorem tdS {P : List Int} {c : List CT} (h : TdT ts P) (hl : 4 * P.length + R.length ≤ 240) (hx : ¬ PlT ts P → tk f ≠ 75 ∧ tk f ≠ 77) : ∃ A Q, P = A ++ Q ∧ PlT ts Q ∧ A.length ≤ 2 ∧ (∀ x ∈ A, 2 ≤ bnd x) ∧ Rh tk nu nx o (2 * A.length) (f, u, b, -1, Kst ts R P, tg, e, pp, v, c) (f, u, b, -1, Kst ts R Q, tg, e, pp, v, c ++ A.map (fun x => tokOf x 0)) := by
  have cmp : ∀ {x : Int} {Q : List Int} {c : List CT}, (24 ≤ x ∧ x ≤ 26) → tk f ≠ 75 ∧ tk f ≠ 77 → 4 * Q.length + R.length ≤ 240 → Rh tk nu nx o 2 (f, u, b, -1, 721 :: (400 + tkO x) :: Kst ts R Q, tg, e, pp, v, c) (f, u, b, -1, Kst ts R Q, tg, e, pp, v, c ++ [tokOf x 0]) := fun {x Q c} hc h7 hq => by
    obtain ⟨t1, t2⟩ := tkO_c hc
    have hlen := (KJ_len (ts := ts) (R := R) Q).2
    have m1 := rul_0 (tk := tk) (nu := nu) (nx := nx) (o := o) (f := f) (u := u) (b' := b) (y := 721) (tg := tg) (e := e) (L := []) (r := (400 + tkO x) :: Kst ts R Q) (pp := pp) (v := v) (c := c) (by decide) (by rw [List.length_cons]; omega) (by rw [prd_721, if_neg h7.1, if_neg h7.2])
    have m2 := emt (tk := tk) (nu := nu) (nx := nx) (o := o) (f := f) (u := u) (b' := b) (y := 400 + tkO x) (tg := tg) (e := e) (r := Kst ts R Q) (pp := pp) (v := v) (c := c) t2.1 t2.2 (by omega)
    rw [show 400 + tkO x - 400 = tkO x by omega, ← t1] at m2
    exact m1.tr m2
  rcases h with h | ⟨x, Q, e1, hc, hQ⟩ | ⟨y, x, Q, e1, hy, hc, hQ⟩
  · refine ⟨[], P, rfl, h, by simp, fun x hx => (by cases hx), ?_⟩
    show Rh tk nu nx o 0 _ (f, u, b, -1, Kst ts R P, tg, e, pp, v, c ++ [])
    rw [List.append_nil]; exact Rh.rf
  · have hx := hx (fun z => by rw [e1] at z; have := z.2; omega)
    refine ⟨[x], Q, e1, hQ, by simp, fun z hz => by rw [List.mem_singleton.mp hz, bnd_c hc]; omega, ?_⟩
    rw [e1, List.length_cons] at hl
    rw [e1, K_cmp hc]
    exact cmp hc hx (by omega)
  · have hx := hx (fun z => by rw [e1] at z; have := z.2; unfold isS at hy; omega)
    refine ⟨[y, x], Q, e1, hQ, by simp, fun z hz => ?_, ?_⟩
    · rcases List.mem_cons.mp hz with w | w
      · rw [w, bnd_s hy]; omega
      · rw [List.mem_singleton.mp w, bnd_c hc]; omega
    · rw [e1, List.length_cons, List.length_cons] at hl
      obtain ⟨t1, t2⟩ := tkO_s hy
      have hlen := (KJ_len (ts := ts) (R := R) Q).2
      rw [e1, K_s hy, J_cmp hc]
      have m2 := emt (tk := tk) (nu := nu) (nx := nx) (o := o) (f := f) (u := u) (b' := b) (y := 400 + tkO y) (tg := tg) (e := e) (r := 721 :: (400 + tkO x) :: Kst ts R Q) (pp := pp) (v := v) (c := c) t2.1 t2.2 (by rw [List.length_cons, List.length_cons]; omega)
      rw [show 400 + tkO y - 400 = tkO y by omega, ← t1] at m2
      have := (m2.tr (cmp hc hx (by omega))).mono (b := 2 * [y, x].length) (by simp)
      rw [List.append_assoc] at this
      exact this
theorem op_app {A Q : List Int} {l : Int} (h : ∀ x ∈ A, l ≤ bnd x) : opr (A ++ Q) l = opr Q l ∧ opn (A ++ Q) l = A ++ opn Q l := by
  induction A with
  | nil => exact ⟨rfl, rfl⟩
  | cons x A ih =>
    have h1 := h x List.mem_cons_self
    obtain ⟨i1, i2⟩ := ih (fun z hz => h z (List.mem_cons_of_mem _ hz))
    rw [List.cons_append, opr, opn, if_pos h1, if_pos h1, i1, i2]
    exact ⟨rfl, rfl⟩
theorem mT2 {P : List Int} {c : List CT} (h : TdT ts P) (hl : 4 * P.length + R.length ≤ 240) (hx17 : tk f = 17) : PlT ts (opr P 2) ∧ hdO (opr P 2) ∧ (opn P 2).length + (opr P 2).length = P.length ∧ Rh tk nu nx o (2 * (opn P 2).length) (f, u, b, -1, Kst ts R P, tg, e, pp, v, c) (f, u, b, -1, Kst ts R (opr P 2), tg, e, pp, v, c ++ (opn P 2).map (fun x => tokOf x 0)) := by
  obtain ⟨A, Q, e1, hQ, hA2, hA, hR⟩ := tdS (tk := tk) (f := f) (nu := nu) (nx := nx) (o := o) (u := u) (b := b) (tg := tg) (e := e) (pp := pp) (v := v) (c := c) h hl (fun _ => by omega)
  subst e1
  rw [List.length_append] at hl
  obtain ⟨o1, o2⟩ := op_app (Q := Q) hA
  obtain ⟨i1, i2, i3, i4⟩ := mK2 (nu := nu) (nx := nx) (o := o) (u := u) (b := b) (tg := tg) (e := e) (pp := pp) (v := v) (R := R) hx17 (c := c ++ A.map (fun x => tokOf x 0)) hQ (by omega)
  rw [o1, o2]
  refine ⟨i1, i2, by rw [List.length_append, List.length_append]; omega, ?_⟩
  have := (hR.tr i4).mono (b := 2 * (A ++ opn Q 2).length) (by rw [List.length_append]; omega)
  rw [List.append_assoc, ← List.map_append] at this
  exact this
theorem mT1 {P : List Int} {c : List CT} (h : TdT ts P) (hl : 4 * P.length + R.length ≤ 240) (hx17 : tk f ≠ 17) (hx : ¬ PlT ts P → tk f ≠ 75 ∧ tk f ≠ 77) : PlT ts (opr P 1) ∧ hdB (opr P 1) ∧ (opn P 1).length + (opr P 1).length = P.length ∧ Rh tk nu nx o (2 * (opn P 1).length + 1) (f, u, b, -1, Kst ts R P, tg, e, pp, v, c) (f, u, b, -1, 711 :: (Kst ts R (opr P 1)).drop 2, tg, e, pp, v, c ++ (opn P 1).map (fun x => tokOf x 0)) := by
  obtain ⟨A, Q, e1, hQ, hA2, hA, hR⟩ := tdS (tk := tk) (f := f) (nu := nu) (nx := nx) (o := o) (u := u) (b := b) (tg := tg) (e := e) (pp := pp) (v := v) (c := c) h hl hx
  subst e1
  rw [List.length_append] at hl
  obtain ⟨o1, o2⟩ := op_app (Q := Q) (l := 1) (fun x hx => by have := hA x hx; omega)
  obtain ⟨i1, i2, i3, i4⟩ := mK1 (nu := nu) (nx := nx) (o := o) (u := u) (b := b) (tg := tg) (e := e) (pp := pp) (v := v) (R := R) hx17 (c := c ++ A.map (fun x => tokOf x 0)) hQ (by omega)
  rw [o1, o2]
  refine ⟨i1, i2, by rw [List.length_append, List.length_append]; omega, ?_⟩
  have := (hR.tr i4).mono (b := 2 * (A ++ opn Q 1).length + 1) (by rw [List.length_append]; omega)
  rw [List.append_assoc, ← List.map_append] at this
  exact this
end MKJ
