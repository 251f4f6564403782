/-! the machine's moves one by one; the types of what it emits -/
section PRD
variable {o x : Int}
theorem prd_700 : prd o x 700 = if x = 0 then some (1, [300]) else if x = 1 then some (1, [301]) else if x = 2 then some (1, [302]) else if x = 3 then some (1, [325, 303]) else if x = 4 then some (1, [710]) else none := by simp [prd]
theorem prd_701 : prd o x 701 = if x = 5 then some (1, [702, 704]) else if x = 6 then some (1, [720, 704]) else none := by simp [prd]
theorem prd_702 : prd o x 702 = if x = 8 then some (1, [326, 15, 723]) else if x = 9 then some (1, [327, 15, 720]) else if x = 10 then some (1, [724, 703, 15, 723]) else if x = 11 then some (1, [724, 703, 15, 723]) else if x = 12 then some (1, [724, 703, 15, 720]) else none := by simp [prd]
theorem prd_703 : prd o x 703 = some (0, []) := by simp [prd]
theorem prd_704 : prd o x 704 = if x = 7 then some (1, [710]) else some (0, []) := by simp [prd]
theorem prd_710 : prd o x 710 = some (0, [712, 711]) := by simp [prd]
theorem prd_712 : prd o x 712 = some (0, [714, 713]) := by simp [prd]
theorem prd_720 : prd o x 720 = some (0, [722, 721]) := by simp [prd]
theorem prd_711 : prd o x 711 = if x = 16 then some (1, [712, 416, 711]) else some (0, []) := by simp [prd]
theorem prd_713 : prd o x 713 = if x = 17 then some (1, [714, 417, 713]) else some (0, []) := by simp [prd]
theorem prd_721 : prd o x 721 = if x = 75 then some (1, [722, 475, 721]) else if x = 77 then some (1, [722, 477, 721]) else some (0, []) := by simp [prd]
theorem prd_714 : prd o x 714 = if x = 18 then some (1, [714, 418]) else if x = 72 then some (0, [72, 710, 73]) else some (0, [720, 715]) := by simp [prd]
theorem prd_715 : prd o x 715 = if x = 92 then some (1, [720, 492]) else if x = 94 then some (1, [720, 494]) else if x = 93 then some (1, [720, 493]) else none := by simp [prd]
theorem prd_722 : prd o x 722 = if x = 22 then some (0, [322]) else if x = 9 then some (1, [309]) else if x = 19 then some (1, [319]) else if x = 20 then some (1, [320]) else if x = 123 then some (0, [123, 720, 125]) else if x = 12 ∧ o = 1 then some (1, [724, 412]) else none := by simp [prd]
theorem prd_723 : prd o x 723 = if x = 13 then some (1, [313]) else if x = 8 then some (1, [308]) else if x = 14 then some (1, [414]) else if x = 10 then some (1, [724, 410]) else if x = 11 then some (1, [724, 411]) else none := by simp [prd]
theorem prd_724 : prd o x 724 = some (0, [72, 723, 73]) := by simp [prd]
end PRD
section MVS2
variable {ps : List Int → List Int → List Int} {tk nu nx : Int → Int} {o : Int}
theorem dead_mv {s : MS} (h : flt s ≠ -1) : flt (mv ps tk nu nx o s) = flt s := by
  obtain ⟨f, u, b, fl, k, tg, e, p, v, c⟩ := s
  have h : fl ≠ -1 := h
  cases k with
  | nil => rfl
  | cons y r =>
    have hx : tkn tk f fl = 24 := if_neg h
    have hf : flt (flS f u b fl tg e p v c) = fl := if_neg h
    by_cases h7 : 700 ≤ y
    · cases hq : prd o (tkn tk f fl) y with
      | none => rw [mv_7n h7 hq]; exact hf
      | some q =>
        rcases (prd_tk hq).1 with z | z
        · rw [mv_70 h7 hq z]; rfl
        · exact absurd hx ((prd_tk hq).2 z).2.1
    · by_cases h4 : 400 ≤ y
      · rw [mv_4 h4 (by omega)]; rfl
      · by_cases h3 : 300 ≤ y
        · rw [mv_3 h3 (by omega), if_pos (Or.inl (by rw [hx]; decide))]; exact hf
        · rw [mv_2 (by omega), if_pos (Or.inl (show fl ≠ -1 from h))]; exact hf
end MVS2
/-- what a stack makes of the types of the code so far (0 place, 1 value, 2 test of a line; 3 a law) -/
def Fit : List Int → Nat → List Nat → Prop
  | [], ph, ts => (ph = 3 ∧ ts = [2]) ∨ (ph = 2 ∧ (ts = [] ∨ ts = [2]))
  | y :: r, ph, ts =>
    if y = 700 then ph = 3 ∧ ts = [] ∧ r = []
    else if y = 701 then ph = 4 ∧ ts = [] ∧ r = []
    else if y = 702 then ph = 0 ∧ ts = [] ∧ r = [704]
    else if y = 703 then ph = 0 ∧ ts = [0] ∧ Fit r 1 []
    else if y = 704 then ph = 1 ∧ (ts = [0] ∨ ts = [1]) ∧ r = []
    else if y = 326 ∨ y = 327 then ph = 0 ∧ ts = [] ∧ Fit r 1 []
    else if y < 300 then Fit r ph ts
    else if y < 400 then ∃ ts', (∀ a, 0 ≤ a → a ≤ mst (y - 300) → ty1 (y - 300) a ts = some ts') ∧ (y ≠ 310 ∧ y ≠ 311 ∧ y ≠ 312) ∧ Fit r ph ts'
    else if y < 700 then ∃ ts', ty1 (y - 400) 0 ts = some ts' ∧ (ph = 3 → y ≠ 410 ∧ y ≠ 411 ∧ y ≠ 412) ∧ Fit r ph ts'
    else if y = 710 ∨ y = 712 ∨ y = 714 then Fit r ph (2 :: ts)
    else if y = 711 ∨ y = 713 then (∃ ts', ts = 2 :: ts') ∧ Fit r ph ts
    else if y = 715 then ∃ ts', ts = 1 :: ts' ∧ Fit r ph (2 :: ts')
    else if y = 720 ∨ y = 722 then Fit r ph (1 :: ts)
    else if y = 721 then (∃ ts', ts = 1 :: ts') ∧ Fit r ph ts
    else ph ≠ 3 ∧ Fit r ph (0 :: ts)
section FIT
variable {y : Int} {r : List Int} {ph : Nat} {ts : List Nat}
theorem fit_700 : Fit (700 :: r) ph ts ↔ ph = 3 ∧ ts = [] ∧ r = [] := by rw [Fit]; simp
theorem fit_701 : Fit (701 :: r) ph ts ↔ ph = 4 ∧ ts = [] ∧ r = [] := by rw [Fit]; simp
theorem fit_702 : Fit (702 :: r) ph ts ↔ ph = 0 ∧ ts = [] ∧ r = [704] := by rw [Fit]; simp
theorem fit_703 : Fit (703 :: r) ph ts ↔ ph = 0 ∧ ts = [0] ∧ Fit r 1 [] := by rw [Fit]; simp
theorem fit_704 : Fit (704 :: r) ph ts ↔ ph = 1 ∧ (ts = [0] ∨ ts = [1]) ∧ r = [] := by rw [Fit]; simp
theorem fit_aim (h : y = 326 ∨ y = 327) : Fit (y :: r) ph ts ↔ ph = 0 ∧ ts = [] ∧ Fit r 1 [] := by
  rcases h with h | h <;> subst h <;> rw [Fit] <;> simp
theorem fit_due (h : y < 300) : Fit (y :: r) ph ts ↔ Fit r ph ts := by
  rw [Fit, if_neg (by omega), if_neg (by omega), if_neg (by omega), if_neg (by omega), if_neg (by omega), if_neg (by omega), if_pos h]
theorem fit_num (h : 300 ≤ y) (h2 : y < 400) (h3 : ¬ (y = 326 ∨ y = 327)) : Fit (y :: r) ph ts ↔ ∃ ts', (∀ a, 0 ≤ a → a ≤ mst (y - 300) → ty1 (y - 300) a ts = some ts') ∧ (y ≠ 310 ∧ y ≠ 311 ∧ y ≠ 312) ∧ Fit r ph ts' := by
  rw [Fit, if_neg (by omega), if_neg (by omega), if_neg (by omega), if_neg (by omega), if_neg (by omega), if_neg h3, if_neg (by omega), if_pos h2]
theorem fit_emt (h : 400 ≤ y) (h2 : y < 700) : Fit (y :: r) ph ts ↔ ∃ ts', ty1 (y - 400) 0 ts = some ts' ∧ (ph = 3 → y ≠ 410 ∧ y ≠ 411 ∧ y ≠ 412) ∧ Fit r ph ts' := by
  rw [Fit, if_neg (by omega), if_neg (by omega), if_neg (by omega), if_neg (by omega), if_neg (by omega), if_neg (by omega), if_neg (by omega), if_neg (by omega), if_pos h2]
theorem fit_710 : Fit (710 :: r) ph ts ↔ Fit r ph (2 :: ts) := by rw [Fit]; simp
theorem fit_712 : Fit (712 :: r) ph ts ↔ Fit r ph (2 :: ts) := by rw [Fit]; simp
theorem fit_714 : Fit (714 :: r) ph ts ↔ Fit r ph (2 :: ts) := by rw [Fit]; simp
theorem fit_711 : Fit (711 :: r) ph ts ↔ (∃ ts', ts = 2 :: ts') ∧ Fit r ph ts := by rw [Fit]; simp
theorem fit_713 : Fit (713 :: r) ph ts ↔ (∃ ts', ts = 2 :: ts') ∧ Fit r ph ts := by rw [Fit]; simp
theorem fit_715 : Fit (715 :: r) ph ts ↔ ∃ ts', ts = 1 :: ts' ∧ Fit r ph (2 :: ts') := by rw [Fit]; simp
theorem fit_720 : Fit (720 :: r) ph ts ↔ Fit r ph (1 :: ts) := by rw [Fit]; simp
theorem fit_722 : Fit (722 :: r) ph ts ↔ Fit r ph (1 :: ts) := by rw [Fit]; simp
theorem fit_721 : Fit (721 :: r) ph ts ↔ (∃ ts', ts = 1 :: ts') ∧ Fit r ph ts := by rw [Fit]; simp
theorem fit_723 : Fit (723 :: r) ph ts ↔ ph ≠ 3 ∧ Fit r ph (0 :: ts) := by rw [Fit]; simp
theorem fit_724 : Fit (724 :: r) ph ts ↔ ph ≠ 3 ∧ Fit r ph (0 :: ts) := by rw [Fit]; simp
end FIT
theorem tyc_snoc {q : CT} : ∀ {k : List CT} {ts t1 t2 : List Nat}, tyc k ts = some t1 → ty1 q.1 q.2 t1 = some t2 → tyc (k ++ [q]) ts = some t2
  | [], ts, t1, t2, h1, h2 => by
    cases h1
    show (match ty1 q.1 q.2 ts with | some s => tyc [] s | none => none) = _
    rw [h2]; rfl
  | a :: k, ts, t1, t2, h1, h2 => by
    obtain ⟨t0, z1, z2⟩ := tyc_c h1
    show (match ty1 a.1 a.2 ts with | some s => tyc (k ++ [q]) s | none => none) = _
    rw [z1]
    exact tyc_snoc z2 h2
/-- what is true of code, target and types in each part of a row -/
def Phs (ph : Nat) (tg e : Int) (p v c : List CT) : Prop :=
  (0 ≤ tg ∧ tg ≤ 9) ∧ (ph = 0 → p = [] ∧ v = [] ∧ e = 0) ∧ (ph = 1 → v = [] ∧ e = 0 ∧ (6 ≤ tg → tg ≤ 8 → tyc p [] = some [0])) ∧ (ph = 2 → e = 1 ∧ (tyc v [] = some [0] ∨ tyc v [] = some [1]) ∧ (6 ≤ tg → tg ≤ 8 → tyc p [] = some [0])) ∧ (ph = 3 → p = [] ∧ v = [] ∧ ∀ q ∈ c, q.1 ≠ 10 ∧ q.1 ≠ 11 ∧ q.1 ≠ 12) ∧ (ph = 4 → p = [] ∧ v = [] ∧ e = 0 ∧ tg = 9)
def TY (o : Int) (k : List Int) (tg e : Int) (p v c : List CT) : Prop := ∃ ph ts, (o = 1 ↔ ph ≠ 3) ∧ tyc c [] = some ts ∧ Fit k ph ts ∧ Phs ph tg e p v c
theorem TY_snoc {r : List Int} {o tg e : Int} {p v c : List CT} {ph : Nat} {ts t2 : List Nat} {q : CT} (hO : o = 1 ↔ ph ≠ 3) (h1 : tyc c [] = some ts) (h2 : ty1 q.1 q.2 ts = some t2) (hP : Phs ph tg e p v c) (hF : Fit r ph t2) (h3 : ph = 3 → q.1 ≠ 10 ∧ q.1 ≠ 11 ∧ q.1 ≠ 12) : TY o r tg e p v (c ++ [q]) := by
  obtain ⟨a1, a2, a3, a4, a5, a6⟩ := hP
  refine ⟨ph, t2, hO, tyc_snoc h1 h2, hF, a1, a2, a3, a4, fun z => ?_, a6⟩
  obtain ⟨b1, b2, b3⟩ := a5 z
  refine ⟨b1, b2, fun q' hq => ?_⟩
  rcases List.mem_append.mp hq with w | w
  · exact b3 q' w
  · rw [List.mem_singleton.mp w]; exact h3 z
def TYs (o : Int) (s : MS) : Prop := flt s = -1 → TY o (stk s) s.2.2.2.2.2.1 s.2.2.2.2.2.2.1 s.2.2.2.2.2.2.2.1 s.2.2.2.2.2.2.2.2.1 s.2.2.2.2.2.2.2.2.2
theorem TYs_tkS {tk nx : Int → Int} {L r : List Int} {o f u b fl tg e : Int} {p v c : List CT} (hf : nx f ≠ -1) (h : TY o (L ++ r) tg e p v c) : TYs o (tkS psU tk nx L f u b fl r tg e p v c) := by
  unfold tkS
  split
  · exact fun z => absurd z hf
  · exact fun _ => h
theorem TYs_flS {o f u b fl tg e : Int} {p v c : List CT} (hf : f ≠ -1) : TYs o (flS f u b fl tg e p v c) := fun z => by
  have z : (if fl = -1 then f else fl) = -1 := z
  by_cases h : fl = -1
  · rw [if_pos h] at z; exact absurd z hf
  · rw [if_neg h] at z; exact absurd z h
