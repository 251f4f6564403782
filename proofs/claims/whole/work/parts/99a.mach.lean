/-! the parser as a machine: what is awaited stands on a stack; f the place of the token in hand, u the tokens used, b the brackets, fl the fault's place (-1: none), then the stack, the target, whether the value has ended, the code of place, value, test -/
abbrev MS : Type := Int × Int × Int × Int × List Int × Int × Int × List CT × List CT × List CT
theorem ifO {c : Prop} [Decidable c] {α : Type} {a b z : α} {P : Prop} (h : (if c then a else b) = z) (h1 : c → a = z → P) (h2 : ¬ c → b = z → P) : P := by
  by_cases hc : c
  · rw [if_pos hc] at h; exact h1 hc h
  · rw [if_neg hc] at h; exact h2 hc h
def prd (o x y : Int) : Option (Int × List Int) :=
  if y = 700 then (if x = 0 then some (1, [300]) else if x = 1 then some (1, [301]) else if x = 2 then some (1, [302]) else if x = 3 then some (1, [325, 303]) else if x = 4 then some (1, [710]) else none)
  else if y = 701 then (if x = 5 then some (1, [702, 704]) else if x = 6 then some (1, [720, 704]) else none)
  else if y = 702 then (if x = 8 then some (1, [326, 15, 723]) else if x = 9 then some (1, [327, 15, 720]) else if x = 10 then some (1, [724, 703, 15, 723]) else if x = 11 then some (1, [724, 703, 15, 723]) else if x = 12 then some (1, [724, 703, 15, 720]) else none)
  else if y = 703 then some (0, [])
  else if y = 704 then (if x = 7 then some (1, [710]) else some (0, []))
  else if y = 710 then some (0, [712, 711])
  else if y = 712 then some (0, [714, 713])
  else if y = 720 then some (0, [722, 721])
  else if y = 711 then (if x = 16 then some (1, [712, 416, 711]) else some (0, []))
  else if y = 713 then (if x = 17 then some (1, [714, 417, 713]) else some (0, []))
  else if y = 721 then (if x = 75 then some (1, [722, 475, 721]) else if x = 77 then some (1, [722, 477, 721]) else some (0, []))
  else if y = 714 then (if x = 18 then some (1, [714, 418]) else if x = 72 then some (0, [72, 710, 73]) else some (0, [720, 715]))
  else if y = 715 then (if x = 92 then some (1, [720, 492]) else if x = 94 then some (1, [720, 494]) else if x = 93 then some (1, [720, 493]) else none)
  else if y = 722 then (if x = 22 then some (0, [322]) else if x = 9 then some (1, [309]) else if x = 19 then some (1, [319]) else if x = 20 then some (1, [320]) else if x = 123 then some (0, [123, 720, 125]) else if x = 12 ∧ o = 1 then some (1, [724, 412]) else none)
  else if y = 723 then (if x = 13 then some (1, [313]) else if x = 8 then some (1, [308]) else if x = 14 then some (1, [414]) else if x = 10 then some (1, [724, 410]) else if x = 11 then some (1, [724, 411]) else none)
  else if y = 724 then some (0, [72, 723, 73])
  else none
def tkn (tk : Int → Int) (f fl : Int) : Int := if fl = -1 then tk f else 24
def flS (f u b fl tg e : Int) (p v c : List CT) : MS := (f, u, b, (if fl = -1 then f else fl), [], tg, e, p, v, c)
def tkS (ps : List Int → List Int → List Int) (tk nx : Int → Int) (L : List Int) (f u b fl : Int) (r : List Int) (tg e : Int) (p v c : List CT) : MS :=
  if 59 ≤ u ∧ tk (nx f) ≠ 91 ∧ tk (nx f) ≠ 23 then (nx f, u + 1, b, nx f, ps L [], tg, e, p, v, c) else (nx f, u + 1, b, fl, ps L r, tg, e, p, v, c)
def mst (w : Int) : Int := if w = 22 then 99 else if w = 13 then 5 else 2
def tgN (x tg : Int) : Int := if x = 10 then 6 else if x = 11 then 7 else if x = 12 then 8 else tg
def pNw (y : Int) (p v c : List CT) : List CT := if y = 703 then p ++ v ++ c else p
def vNw (y : Int) (v c : List CT) : List CT := if y = 703 then [] else if y = 704 then v ++ c else v
def cNw (y : Int) (c : List CT) : List CT := if y = 703 ∨ y = 704 then [] else c
def eNw (y e : Int) : Int := if y = 704 then 1 else if y = 703 then 0 else e
theorem pNw_n {y : Int} {p v c : List CT} (h : y ≠ 703) : pNw y p v c = p := if_neg h
theorem vNw_n {y : Int} {v c : List CT} (h : y ≠ 703) (h4 : y ≠ 704) : vNw y v c = v := by unfold vNw; rw [if_neg h, if_neg h4]
theorem cNw_n {y : Int} {c : List CT} (h : y ≠ 703) (h4 : y ≠ 704) : cNw y c = c := if_neg (fun z => z.elim h h4)
theorem eNw_n {y e : Int} (h : y ≠ 703) (h4 : y ≠ 704) : eNw y e = e := by unfold eNw; rw [if_neg h4, if_neg h]
def mv (ps : List Int → List Int → List Int) (tk nu nx : Int → Int) (o : Int) : MS → MS
  | (f, u, b, fl, [], tg, e, p, v, c) => (f, u, b, fl, [], tg, e, p, v, c)
  | (f, u, b, fl, y :: r, tg, e, p, v, c) =>
    if 700 ≤ y then (match prd o (tkn tk f fl) y with
      | none => flS f u b fl tg e p v c
      | some q => if q.1 = 1 then tkS ps tk nx q.2 f u b fl r (if y = 702 then tgN (tkn tk f fl) tg else tg) (eNw y e) (pNw y p v c) (vNw y v c) (cNw y c)
        else (f, u, b, fl, ps q.2 r, tg, (eNw y e), (pNw y p v c), (vNw y v c), (cNw y c)))
    else if 400 ≤ y then (f, u, b, fl, r, tg, e, p, v, c ++ [(y - 400, 0)])
    else if 300 ≤ y then (if tkn tk f fl ≠ 22 ∨ mst (y - 300) < nu f then flS f u b fl tg e p v c
      else tkS ps tk nx [] f u b fl r (if y = 326 then nu f else if y = 327 then 3 + nu f else tg) e p v (if y = 326 ∨ y = 327 then c else c ++ [(y - 300, nu f)]))
    else (if fl ≠ -1 ∨ tk f ≠ y ∨ ((y = 72 ∨ y = 123) ∧ 8 ≤ b) then flS f u b fl tg e p v c
      else tkS ps tk nx [] f u (if y = 72 ∨ y = 123 then b + 1 else if y = 73 ∨ y = 125 then b - 1 else b) fl r tg e p v c)
def psG (L r : List Int) : List Int := L.foldr (fun y r => if r.length < 256 then y :: r else r) r
def psU (L r : List Int) : List Int := L ++ r
def itr (F : MS → MS) : Nat → MS → MS
  | 0, s => s
  | n + 1, s => itr F n (F s)
theorem itr_add {F : MS → MS} : ∀ (n m : Nat) (s : MS), itr F (n + m) s = itr F m (itr F n s)
  | 0, m, s => by rw [Nat.zero_add]; rfl
  | n + 1, m, s => by rw [show n + 1 + m = (n + m) + 1 by omega, itr, itr, itr_add n m]
theorem itr_fix {F : MS → MS} {s : MS} (h : F s = s) : ∀ n, itr F n s = s
  | 0 => rfl
  | n + 1 => by rw [itr, h]; exact itr_fix h n
def stk (s : MS) : List Int := s.2.2.2.2.1
def flt (s : MS) : Int := s.2.2.2.1
theorem mv_nil {ps : List Int → List Int → List Int} {tk nu nx : Int → Int} {o : Int} {s : MS} (h : stk s = []) : mv ps tk nu nx o s = s := by
  obtain ⟨f, u, b, fl, k, tg, e, p, v, c⟩ := s
  cases k with
  | nil => rfl
  | cons y r => cases h
section MVS
variable {ps : List Int → List Int → List Int} {tk nu nx : Int → Int} {o f u b fl y tg e : Int} {r : List Int} {p v c : List CT} {q : Int × List Int}
theorem mv_7 (hy : 700 ≤ y) : mv ps tk nu nx o (f, u, b, fl, y :: r, tg, e, p, v, c) = match prd o (tkn tk f fl) y with
      | none => flS f u b fl tg e p v c
      | some q => if q.1 = 1 then tkS ps tk nx q.2 f u b fl r (if y = 702 then tgN (tkn tk f fl) tg else tg) (eNw y e) (pNw y p v c) (vNw y v c) (cNw y c)
        else (f, u, b, fl, ps q.2 r, tg, (eNw y e), (pNw y p v c), (vNw y v c), (cNw y c)) := by
  rw [mv]
  exact if_pos hy
theorem mv_71 (hy : 700 ≤ y) (hq : prd o (tkn tk f fl) y = some q) (h1 : q.1 = 1) : mv ps tk nu nx o (f, u, b, fl, y :: r, tg, e, p, v, c) = tkS ps tk nx q.2 f u b fl r (if y = 702 then tgN (tkn tk f fl) tg else tg) (eNw y e) (pNw y p v c) (vNw y v c) (cNw y c) := by
  rw [mv_7 hy, hq]
  exact if_pos h1
theorem mv_70 (hy : 700 ≤ y) (hq : prd o (tkn tk f fl) y = some q) (h1 : q.1 = 0) : mv ps tk nu nx o (f, u, b, fl, y :: r, tg, e, p, v, c) = (f, u, b, fl, ps q.2 r, tg, (eNw y e), (pNw y p v c), (vNw y v c), (cNw y c)) := by
  rw [mv_7 hy, hq]
  exact if_neg (by rw [h1]; decide)
theorem mv_7n (hy : 700 ≤ y) (hq : prd o (tkn tk f fl) y = none) : mv ps tk nu nx o (f, u, b, fl, y :: r, tg, e, p, v, c) = flS f u b fl tg e p v c := by
  rw [mv_7 hy, hq]
theorem mv_4 (h1 : 400 ≤ y) (h2 : y < 700) : mv ps tk nu nx o (f, u, b, fl, y :: r, tg, e, p, v, c) = (f, u, b, fl, r, tg, e, p, v, c ++ [(y - 400, 0)]) := by
  rw [mv, if_neg (by omega), if_pos h1]
theorem mv_3 (h1 : 300 ≤ y) (h2 : y < 400) : mv ps tk nu nx o (f, u, b, fl, y :: r, tg, e, p, v, c) = (if tkn tk f fl ≠ 22 ∨ mst (y - 300) < nu f then flS f u b fl tg e p v c
      else tkS ps tk nx [] f u b fl r (if y = 326 then nu f else if y = 327 then 3 + nu f else tg) e p v (if y = 326 ∨ y = 327 then c else c ++ [(y - 300, nu f)])) := by
  rw [mv, if_neg (by omega), if_neg (by omega), if_pos h1]
theorem mv_2 (h2 : y < 300) : mv ps tk nu nx o (f, u, b, fl, y :: r, tg, e, p, v, c) = (if fl ≠ -1 ∨ tk f ≠ y ∨ ((y = 72 ∨ y = 123) ∧ 8 ≤ b) then flS f u b fl tg e p v c
      else tkS ps tk nx [] f u (if y = 72 ∨ y = 123 then b + 1 else if y = 73 ∨ y = 125 then b - 1 else b) fl r tg e p v c) := by
  rw [mv, if_neg (by omega), if_neg (by omega), if_neg (by omega)]
end MVS
theorem psG_eq {L r : List Int} (h : L.length + r.length ≤ 256) : psG L r = psU L r := by
  unfold psG psU
  induction L with
  | nil => rfl
  | cons y L ih =>
    have h' : L.length + 1 + r.length ≤ 256 := h
    rw [List.foldr_cons, ih (by omega), if_pos (by rw [List.length_append]; omega)]
    rfl
theorem prd_len {o x y : Int} {q : Int × List Int} (h : prd o x y = some q) : q.2.length ≤ 4 := by
  unfold prd at h
  repeat' (refine ifO h (fun h0 h => ?_) (fun h0 h => ?_) <;> clear h0)
  all_goals first | (cases h; decide) | cases h
theorem mv_GU {tk nu nx : Int → Int} {o : Int} {s : MS} (h : (stk s).length ≤ 250) : mv psG tk nu nx o s = mv psU tk nu nx o s := by
  obtain ⟨f, u, b, fl, k, tg, e, p, v, c⟩ := s
  cases k with
  | nil => rfl
  | cons y r =>
    have hr : r.length + 1 ≤ 250 := h
    have e0 : ∀ L : List Int, L.length ≤ 4 → psG L r = psU L r := fun L hL => psG_eq (by omega)
    have e1 : ∀ L : List Int, L.length ≤ 4 → psG L [] = psU L [] := fun L hL => psG_eq (by simp; omega)
    by_cases h7 : 700 ≤ y
    · rw [mv_7 h7, mv_7 h7]
      cases hq : prd o (tkn tk f fl) y with
      | none => rfl
      | some q =>
        have hl := prd_len hq
        simp only [tkS, e0 _ hl, e1 _ hl]
    · by_cases h4 : 400 ≤ y
      · rw [mv_4 h4 (by omega), mv_4 h4 (by omega)]
      · by_cases h3 : 300 ≤ y
        · rw [mv_3 h3 (by omega), mv_3 h3 (by omega)]
          simp only [tkS, e0 [] (by simp), e1 [] (by simp)]
        · rw [mv_2 (by omega), mv_2 (by omega)]
          simp only [tkS, e0 [] (by simp), e1 [] (by simp)]
/-- from s on the machine comes to s' within a moves, its stack never high -/
def Rh (tk nu nx : Int → Int) (o : Int) (a : Nat) (s s' : MS) : Prop := ∃ n, n ≤ a ∧ itr (mv psU tk nu nx o) n s = s' ∧ ∀ m, m < n → (stk (itr (mv psU tk nu nx o) m s)).length ≤ 250
section RHS
variable {tk nu nx : Int → Int} {o : Int} {a b : Nat} {s s' s2 : MS}
theorem Rh.rf : Rh tk nu nx o a s s := ⟨0, Nat.zero_le _, rfl, fun m h => absurd h (Nat.not_lt_zero _)⟩
theorem Rh.tr (h : Rh tk nu nx o a s s') (h2 : Rh tk nu nx o b s' s2) : Rh tk nu nx o (a + b) s s2 := by
  obtain ⟨n, hn, e, hs⟩ := h
  obtain ⟨m, hm, e2, hs2⟩ := h2
  refine ⟨n + m, by omega, by rw [itr_add, e, e2], fun k hk => ?_⟩
  by_cases hkn : k < n
  · exact hs k hkn
  · have := hs2 (k - n) (by omega)
    rw [← e, ← itr_add, show n + (k - n) = k by omega] at this
    exact this
theorem Rh.mono (h : Rh tk nu nx o a s s') (hab : a ≤ b) : Rh tk nu nx o b s s' := by
  obtain ⟨n, hn, e⟩ := h
  exact ⟨n, by omega, e⟩
theorem Rh.one (h : (stk s).length ≤ 250) (e : mv psU tk nu nx o s = s') : Rh tk nu nx o 1 s s' :=
  ⟨1, Nat.le_refl _, e, fun m hm => by rw [show m = 0 by omega]; exact h⟩
/-- one move more -/
theorem Rh.go (h : Rh tk nu nx o a s s') (hl : (stk s').length ≤ 250) (e : mv psU tk nu nx o s' = s2) : Rh tk nu nx o (a + 1) s s2 := h.tr (Rh.one hl e)
theorem Rh.itG (h : Rh tk nu nx o a s s') : ∃ n, n ≤ a ∧ itr (mv psG tk nu nx o) n s = s' := by
  obtain ⟨n, hn, e, hs⟩ := h
  refine ⟨n, hn, ?_⟩
  rw [← e]
  clear e hn
  induction n generalizing s with
  | zero => rfl
  | succ n ih =>
    rw [itr, itr]
    have h0 : (stk s).length ≤ 250 := hs 0 (by omega)
    rw [mv_GU h0]
    exact ih (fun m hm => hs (m + 1) (by omega))
/-- a state at its end is where the run ends -/
theorem Rh.fin (h : Rh tk nu nx o a s s') (hs : stk s' = []) {N : Nat} (ha : a ≤ N) : itr (mv psG tk nu nx o) N s = s' := by
  obtain ⟨n, hn, e⟩ := h.itG
  rw [show N = n + (N - n) by omega, itr_add, e]
  exact itr_fix (mv_nil hs) _
theorem Rh.inv (h : Rh tk nu nx o a s s') {I : MS → Prop} (h0 : I s) (hI : ∀ s, I s → I (mv psU tk nu nx o s)) : I s' := by
  obtain ⟨n, -, e, -⟩ := h
  rw [← e]
  clear e
  induction n generalizing s with
  | zero => exact h0
  | succ n ih => rw [itr]; exact ih (hI _ h0)
end RHS
/-- what a token can't be where it is taken -/
theorem prd_tk {o x y : Int} {q : Int × List Int} (h : prd o x y = some q) : (q.1 = 0 ∨ q.1 = 1) ∧ (q.1 = 1 → x ≠ 23 ∧ x ≠ 24 ∧ x ≠ 91) := by
  unfold prd at h
  repeat' (refine ifO h (fun h0 h => ?_) (fun h0 h => ?_))
  all_goals first | (cases h; exact ⟨Or.inl rfl, fun z => absurd z (by decide)⟩) | (cases h; exact ⟨Or.inr rfl, fun _ => by omega⟩) | cases h
def Sy0 (y : Int) : Prop := (0 ≤ y ∧ y < 700 ∧ y ≠ 23 ∧ y ≠ 24 ∧ y ≠ 91) ∨ (700 ≤ y ∧ y ≤ 704) ∨ (710 ≤ y ∧ y ≤ 715) ∨ (720 ≤ y ∧ y ≤ 724)
def Wd1 (w : Int) : Prop := w = 0 ∨ w = 1 ∨ w = 2 ∨ w = 3 ∨ w = 8 ∨ w = 9 ∨ w = 13 ∨ w = 19 ∨ w = 20 ∨ w = 22 ∨ w = 25
def Sy (y : Int) : Prop := Sy0 y ∧ (300 ≤ y → y < 400 → y = 326 ∨ y = 327 ∨ Wd1 (y - 300)) ∧ (400 ≤ y → y < 700 → 10 ≤ y - 400 ∧ y - 400 ≤ 127 ∧ y - 400 ≠ 19 ∧ y - 400 ≠ 20 ∧ y - 400 ≠ 25)
theorem prd_Sy {o x y : Int} {q : Int × List Int} (h : prd o x y = some q) : ∀ z ∈ q.2, Sy z := by
  unfold prd at h
  repeat' (refine ifO h (fun h0 h => ?_) (fun h0 h => ?_) <;> clear h0)
  all_goals first | (cases h; simp [Sy, Sy0, Wd1]; done) | cases h
def cE : List Int → Int
  | [] => 0
  | y :: r => (if 400 ≤ y ∧ y < 700 then 1 else 0) + cE r
theorem cE_0 : ∀ l : List Int, 0 ≤ cE l
  | [] => by simp [cE]
  | y :: r => by
    have := cE_0 r
    rw [cE]
    split <;> omega
theorem prd_cE {o x y : Int} {q : Int × List Int} (h : prd o x y = some q) : cE q.2 ≤ q.1 := by
  unfold prd at h
  repeat' (refine ifO h (fun h0 h => ?_) (fun h0 h => ?_) <;> clear h0)
  all_goals first | (cases h; simp [cE]; done) | cases h
theorem psG_cE {L r : List Int} : cE (psG L r) ≤ cE L + cE r := by
  unfold psG
  induction L with
  | nil => simp [cE]
  | cons y L ih =>
    rw [List.foldr_cons]
    split
    · rw [cE, cE]; omega
    · rw [cE]; split <;> omega
theorem psG_Sy {L r : List Int} (h1 : ∀ z ∈ L, Sy z) (h2 : ∀ z ∈ r, Sy z) : ∀ z ∈ psG L r, Sy z := by
  unfold psG
  induction L with
  | nil => exact h2
  | cons y L ih =>
    rw [List.foldr_cons]
    have ih := ih (fun z hz => h1 z (List.mem_cons_of_mem _ hz))
    split
    · intro z hz
      rcases List.mem_cons.mp hz with e | e
      · rw [e]; exact h1 y List.mem_cons_self
      · exact ih z e
    · exact ih
