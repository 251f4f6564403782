/-! the code of laws and lines, as pairs of token and number; what it comes to -/
theorem nloop {P : Nat → Prop} {N : Nat} (h : ∀ i, i ≤ N → (i < N → P (i + 1)) → P i) : ∀ i, i ≤ N → P i := by
  have key : ∀ r i, i + r = N → P i := by
    intro r
    induction r with
    | zero => intro i hi; exact h i (by omega) (fun z => absurd z (by omega))
    | succ r ih => intro i hi; exact h i (by omega) (fun _ => ih (i + 1) (by omega))
  exact fun i hi => key (N - i) i (by omega)
abbrev CT : Type := Int × Int
abbrev SR : Type := List Int × List Int
def sumL : List Int → Int
  | [] => 0
  | x :: l => x + sumL l
theorem sumL_snoc (x : Int) : ∀ l : List Int, sumL (l ++ [x]) = sumL l + x
  | [] => by simp [sumL]
  | y :: l => by rw [List.cons_append, sumL, sumL, sumL_snoc x l]; omega
def totW (c : Int → Int) (h : Int) : Int := sumL ((way c h).map fun x => c (8 + 3 * x))
def twin (c : Int → Int) : Int → List Int → Bool
  | _, [] => true
  | p, x :: l => decide (c (7 + 3 * x) = p) && twin c x l
def rise (c : Int → Int) : Int → List Int → Bool
  | _, [] => true
  | p, x :: l => decide (p ≤ c (8 + 3 * x)) && rise c (c (8 + 3 * x)) l
def msk (l : List Int) : Int := l.foldl (fun m x => bOr m (bShl 1 (6 + 3 * x))) 0
def jn (t a b : Int) : Int := if t = 75 then a + b else if t = 77 then a - b else if t = 92 then bi (a < b) else if t = 94 then bi (b < a) else if t = 93 then bi (a = b) else if t = 17 then bAnd a b else bOr a b
def cel1 (c : Int → Int) (o : Int) : List Int → List Int → Option SR
  | x :: st, rd => if x = -1 then none else some (c (o + 3 * x) :: st, [o + 3 * x] ++ rd)
  | [], _ => none
def ev3 (t b : Int) : List Int → List Int → Option SR
  | x :: st, rd => some (jn t x b :: st, [] ++ rd)
  | [], _ => none
def ev2 (c : Int → Int) (t a : Int) : List Int → List Int → Option SR
  | b :: st, rd => if t = 3 then some (bi (bAnd b (msk (way c a)) = 0) :: st, askW c a 0 0 ++ rd)
    else if t = 18 then some ((1 - b) :: st, [] ++ rd)
    else ev3 t b st rd
  | [], _ => none
/-- one piece of code -/
def ev1 (c : Int → Int) (t a : Int) (st rd : List Int) : Option SR :=
  if t = 22 ∨ t = 13 then some (a :: st, [] ++ rd)
  else if t = 14 then some (-1 :: st, [] ++ rd)
  else if t = 8 then some (c a :: st, [a] ++ rd)
  else if t = 9 then some (c (3 + a) :: st, [3 + a] ++ rd)
  else if t = 10 then cel1 c 6 st rd
  else if t = 11 then cel1 c 7 st rd
  else if t = 12 then cel1 c 8 st rd
  else if t = 19 then some (((way c a).length : Int) :: st, askW c a 0 0 ++ rd)
  else if t = 20 then some (totW c a :: st, askW c a 0 1 ++ rd)
  else if t = 0 then some (bi (wend c a = -1) :: st, askW c a 0 0 ++ rd)
  else if t = 1 then some (bi (twin c (-1) (way c a) = true) :: st, askW c a 1 0 ++ rd)
  else if t = 2 then some (bi (rise c 0 (way c a) = true) :: st, askW c a 0 1 ++ rd)
  else if t = 25 then some (msk (way c a) :: st, askW c a 0 0 ++ rd)
  else ev2 c t a st rd
def evs (c : Int → Int) : List CT → List Int → List Int → Option SR
  | [], st, rd => some (st, rd)
  | q :: k, st, rd => match ev1 c q.1 q.2 st rd with
    | some s => evs c k s.1 s.2
    | none => none
/-! types: 0 a node, 1 a sum, 2 a test, 3 a row of bits -/
def tyU (x y : Nat) : List Nat → Option (List Nat)
  | z :: ts => if z = x then some (y :: ts) else none
  | [] => none
def tyD (x y : Nat) : List Nat → Option (List Nat)
  | z :: w :: ts => if z = x ∧ w = x then some (y :: ts) else none
  | _ => none
def tyL (m a : Int) (y : Nat) (ts : List Nat) : Option (List Nat) := if 0 ≤ a ∧ a ≤ m then some (y :: ts) else none
def ty1 (t a : Int) (ts : List Nat) : Option (List Nat) :=
  if t = 22 then tyL 99 a 1 ts
  else if t = 13 then tyL 5 a 0 ts
  else if t = 14 then some (0 :: ts)
  else if t = 8 then tyL 2 a 0 ts
  else if t = 9 then tyL 2 a 1 ts
  else if t = 10 then tyU 0 0 ts
  else if t = 11 then tyU 0 0 ts
  else if t = 12 then tyU 0 1 ts
  else if t = 19 then tyL 2 a 1 ts
  else if t = 20 then tyL 2 a 1 ts
  else if t = 0 then tyL 2 a 2 ts
  else if t = 1 then tyL 2 a 2 ts
  else if t = 2 then tyL 2 a 2 ts
  else if t = 25 then tyL 2 a 3 ts
  else if t = 3 then (tyL 2 a 2 ts).bind fun _ => tyU 3 2 ts
  else if t = 18 then tyU 2 2 ts
  else if t = 75 then tyD 1 1 ts
  else if t = 77 then tyD 1 1 ts
  else if t = 92 then tyD 1 2 ts
  else if t = 94 then tyD 1 2 ts
  else if t = 93 then tyD 1 2 ts
  else if t = 17 then tyD 2 2 ts
  else if t = 16 then tyD 2 2 ts
  else none
def tyc : List CT → List Nat → Option (List Nat)
  | [], ts => some ts
  | q :: k, ts => match ty1 q.1 q.2 ts with
    | some s => tyc k s
    | none => none
def tyV (t : Nat) (v : Int) : Prop := (t = 0 → -1 ≤ v ∧ v ≤ 5) ∧ (t = 2 → v = 0 ∨ v = 1)
def Tys : List Nat → List Int → Prop
  | [], [] => True
  | t :: ts, v :: vs => tyV t v ∧ Tys ts vs
  | _, _ => False
def sab : List Nat → List Int → Int
  | t :: ts, v :: vs => (if t = 1 then max v (-v) else 0) + sab ts vs
  | _, _ => 0
theorem Tys.len : ∀ {ts : List Nat} {vs : List Int}, Tys ts vs → ts.length = vs.length
  | [], [], _ => rfl
  | _ :: _, _ :: _, h => by simp only [List.length_cons]; rw [Tys.len h.2]
  | [], _ :: _, h => by cases h
  | _ :: _, [], h => by cases h
theorem Tys.cons {t : Nat} {ts : List Nat} {st : List Int} (h : Tys (t :: ts) st) : ∃ v vs, st = v :: vs ∧ tyV t v ∧ Tys ts vs := by
  cases st with
  | nil => cases h
  | cons v vs => exact ⟨v, vs, rfl, h.1, h.2⟩
theorem tyU_of {x y : Nat} {ts ts' : List Nat} (h : tyU x y ts = some ts') : ∃ r, ts = x :: r ∧ ts' = y :: r := by
  cases ts with
  | nil => cases h
  | cons z r =>
    rw [tyU] at h
    split at h
    · rename_i e; cases h; exact ⟨r, by rw [e], rfl⟩
    · cases h
theorem tyD_of {x y : Nat} {ts ts' : List Nat} (h : tyD x y ts = some ts') : ∃ r, ts = x :: x :: r ∧ ts' = y :: r := by
  cases ts with
  | nil => cases h
  | cons z r =>
    cases r with
    | nil => cases h
    | cons w r =>
      rw [tyD] at h
      split at h
      · rename_i e; cases h; exact ⟨r, by rw [e.1, e.2], rfl⟩
      · cases h
theorem tyL_of {m a : Int} {y : Nat} {ts ts' : List Nat} (h : tyL m a y ts = some ts') : (0 ≤ a ∧ a ≤ m) ∧ ts' = y :: ts := by
  rw [tyL] at h
  split at h
  · rename_i e; cases h; exact ⟨e, rfl⟩
  · cases h
theorem sab_nn : ∀ (ts : List Nat) (vs : List Int), 0 ≤ sab ts vs
  | [], _ => Int.le_refl _
  | _ :: _, [] => Int.le_refl _
  | t :: ts, v :: vs => by
    rw [sab]
    have := sab_nn ts vs
    split <;> omega
theorem sumL_bd {m : Int} (hm : 0 ≤ m) : ∀ l : List Int, (∀ x ∈ l, 0 ≤ x ∧ x ≤ m) → 0 ≤ sumL l ∧ sumL l ≤ m * l.length
  | [], _ => by simp [sumL]
  | x :: l, h => by
    have h1 := h x List.mem_cons_self
    have h2 := sumL_bd hm l (fun y hy => h y (List.mem_cons_of_mem _ hy))
    rw [sumL, List.length_cons, Int.natCast_add, Int.mul_add]
    have : m * ((1 : Nat) : Int) = m := by simp
    omega
theorem totW_bd {c : Int → Int} (hc : VC c) {h : Int} (h0 : 0 ≤ h) (h1 : h < 3) : 0 ≤ totW c h ∧ totW c h ≤ 54 := by
  have := sumL_bd (m := 9) (by decide) ((way c h).map fun x => c (8 + 3 * x)) (fun y hy => by
    obtain ⟨x, hx, rfl⟩ := List.mem_map.mp hy
    have := way_rg hc h0 h1 x hx
    have := hc.2.2 x (by omega) (by omega)
    omega)
  rw [List.length_map] at this
  have hl := way_len c h
  unfold totW
  omega
theorem askN_rg {b k x y : Int} (h0 : 0 ≤ x ∧ x ≤ 5) (h : y ∈ askN b k x) : 0 ≤ y ∧ y < 24 := by
  unfold askN at h
  rcases List.mem_cons.mp h with q | q
  · omega
  · rcases List.mem_append.mp q with q | q
    · split at q
      · rw [List.mem_singleton] at q; omega
      · cases q
    · split at q
      · rw [List.mem_singleton] at q; omega
      · cases q
theorem askW_rg {c : Int → Int} (hc : VC c) {h b k y : Int} (h0 : 0 ≤ h) (h1 : h < 3) (hy : y ∈ askW c h b k) : 0 ≤ y ∧ y < 24 := by
  unfold askW at hy
  rcases List.mem_cons.mp hy with q | q
  · omega
  · obtain ⟨x, hx, q⟩ := List.mem_flatMap.mp q
    exact askN_rg (way_rg hc h0 h1 x hx) q
theorem VC.nd {c : Int → Int} (hc : VC c) {x : Int} (h0 : 0 ≤ x) (h1 : x < 6) : -1 ≤ c (6 + 3 * x) ∧ c (6 + 3 * x) ≤ 5 ∧ -1 ≤ c (7 + 3 * x) ∧ c (7 + 3 * x) ≤ 5 ∧ 0 ≤ c (8 + 3 * x) ∧ c (8 + 3 * x) ≤ 9 := hc.2.2 x h0 h1
theorem tyV0 {v : Int} (h : -1 ≤ v ∧ v ≤ 5) : tyV 0 v := ⟨fun _ => h, fun z => (by cases z)⟩
theorem tyV1 {v : Int} : tyV 1 v := ⟨fun z => (by cases z), fun z => (by cases z)⟩
theorem tyV2 {v : Int} (h : v = 0 ∨ v = 1) : tyV 2 v := ⟨fun z => (by cases z), fun _ => h⟩
theorem tyV3 {v : Int} : tyV 3 v := ⟨fun z => (by cases z), fun z => (by cases z)⟩
theorem bAnd01 {a b : Int} (ha : a = 0 ∨ a = 1) (hb : b = 0 ∨ b = 1) : bAnd a b = 0 ∨ bAnd a b = 1 := by
  rcases ha with rfl | rfl <;> rcases hb with rfl | rfl <;> decide
theorem bOr01 {a b : Int} (ha : a = 0 ∨ a = 1) (hb : b = 0 ∨ b = 1) : bOr a b = 0 ∨ bOr a b = 1 := by
  rcases ha with rfl | rfl <;> rcases hb with rfl | rfl <;> decide
/-! each piece of code by itself -/
section EV1
variable {c : Int → Int} {a : Int} {st rd : List Int}
theorem ev1_22 : ev1 c 22 a st rd = some (a :: st, [] ++ rd) := rfl
theorem ev1_13 : ev1 c 13 a st rd = some (a :: st, [] ++ rd) := rfl
theorem ev1_14 : ev1 c 14 a st rd = some (-1 :: st, [] ++ rd) := rfl
theorem ev1_8 : ev1 c 8 a st rd = some (c a :: st, [a] ++ rd) := rfl
theorem ev1_9 : ev1 c 9 a st rd = some (c (3 + a) :: st, [3 + a] ++ rd) := rfl
theorem ev1_10 : ev1 c 10 a st rd = cel1 c 6 st rd := rfl
theorem ev1_11 : ev1 c 11 a st rd = cel1 c 7 st rd := rfl
theorem ev1_12 : ev1 c 12 a st rd = cel1 c 8 st rd := rfl
theorem ev1_19 : ev1 c 19 a st rd = some (((way c a).length : Int) :: st, askW c a 0 0 ++ rd) := rfl
theorem ev1_20 : ev1 c 20 a st rd = some (totW c a :: st, askW c a 0 1 ++ rd) := rfl
theorem ev1_0 : ev1 c 0 a st rd = some (bi (wend c a = -1) :: st, askW c a 0 0 ++ rd) := rfl
theorem ev1_1 : ev1 c 1 a st rd = some (bi (twin c (-1) (way c a) = true) :: st, askW c a 1 0 ++ rd) := rfl
theorem ev1_2 : ev1 c 2 a st rd = some (bi (rise c 0 (way c a) = true) :: st, askW c a 0 1 ++ rd) := rfl
theorem ev1_25 : ev1 c 25 a st rd = some (msk (way c a) :: st, askW c a 0 0 ++ rd) := rfl
theorem ev1_3 {x : Int} : ev1 c 3 a (x :: st) rd = some (bi (bAnd x (msk (way c a)) = 0) :: st, askW c a 0 0 ++ rd) := rfl
theorem ev1_18 {x : Int} : ev1 c 18 a (x :: st) rd = some ((1 - x) :: st, [] ++ rd) := rfl
theorem ev1_75 {x y : Int} : ev1 c 75 a (y :: x :: st) rd = some ((x + y) :: st, [] ++ rd) := rfl
theorem ev1_77 {x y : Int} : ev1 c 77 a (y :: x :: st) rd = some ((x - y) :: st, [] ++ rd) := rfl
theorem ev1_92 {x y : Int} : ev1 c 92 a (y :: x :: st) rd = some (bi (x < y) :: st, [] ++ rd) := rfl
theorem ev1_94 {x y : Int} : ev1 c 94 a (y :: x :: st) rd = some (bi (y < x) :: st, [] ++ rd) := rfl
theorem ev1_93 {x y : Int} : ev1 c 93 a (y :: x :: st) rd = some (bi (x = y) :: st, [] ++ rd) := rfl
theorem ev1_17 {x y : Int} : ev1 c 17 a (y :: x :: st) rd = some (bAnd x y :: st, [] ++ rd) := rfl
theorem ev1_16 {x y : Int} : ev1 c 16 a (y :: x :: st) rd = some (bOr x y :: st, [] ++ rd) := rfl
theorem cel1_n {o : Int} : cel1 c o (-1 :: st) rd = none := rfl
theorem cel1_c {o x : Int} (h : x ≠ -1) : cel1 c o (x :: st) rd = some (c (o + 3 * x) :: st, [o + 3 * x] ++ rd) := by rw [cel1, if_neg h]
theorem ev1_el {t : Int} (h0 : t ≠ 22) (h1 : t ≠ 13) (h2 : t ≠ 14) (h3 : t ≠ 8) (h4 : t ≠ 9) (h5 : t ≠ 10) (h6 : t ≠ 11) (h7 : t ≠ 12) (h8 : t ≠ 19) (h9 : t ≠ 20) (h10 : t ≠ 0) (h11 : t ≠ 1) (h12 : t ≠ 2) (h13 : t ≠ 25) : ev1 c t a st rd = ev2 c t a st rd := by
  rw [ev1, if_neg (by omega), if_neg h2, if_neg h3, if_neg h4, if_neg h5, if_neg h6, if_neg h7, if_neg h8, if_neg h9, if_neg h10, if_neg h11, if_neg h12, if_neg h13]
end EV1
theorem ty1_cs {t a : Int} {ts ts' : List Nat} (h : ty1 t a ts = some ts') : t = 22 ∨ t = 13 ∨ t = 14 ∨ t = 8 ∨ t = 9 ∨ t = 10 ∨ t = 11 ∨ t = 12 ∨ t = 19 ∨ t = 20 ∨ t = 0 ∨ t = 1 ∨ t = 2 ∨ t = 25 ∨ t = 3 ∨ t = 18 ∨ t = 75 ∨ t = 77 ∨ t = 92 ∨ t = 94 ∨ t = 93 ∨ t = 17 ∨ t = 16 := by
  by_cases hn : t = 22 ∨ t = 13 ∨ t = 14 ∨ t = 8 ∨ t = 9 ∨ t = 10 ∨ t = 11 ∨ t = 12 ∨ t = 19 ∨ t = 20 ∨ t = 0 ∨ t = 1 ∨ t = 2 ∨ t = 25 ∨ t = 3 ∨ t = 18 ∨ t = 75 ∨ t = 77 ∨ t = 92 ∨ t = 94 ∨ t = 93 ∨ t = 17 ∨ t = 16
  · exact hn
  · rw [ty1] at h
    iterate 23 (rw [if_neg (by omega)] at h)
    cases h
/-- what a piece of code leaves -/
def Evd (c : Int → Int) (t a : Int) (ts' : List Nat) (B : Int) (st rd : List Int) : Prop := ∃ st' rd', ev1 c t a st rd = some (st', rd' ++ rd) ∧ Tys ts' st' ∧ sab ts' st' ≤ B + 99 ∧ ∀ x ∈ rd', 0 ≤ x ∧ x < 24
theorem ev1_ty {c : Int → Int} (hc : VC c) {t a : Int} {ts ts' : List Nat} {st : List Int} (rd : List Int) (h : ty1 t a ts = some ts') (hs : Tys ts st) : ev1 c t a st rd = none ∨ Evd c t a ts' (sab ts st) st rd := by
  have leaf : ∀ {y : Nat} {v : Int} {r : List Int}, ev1 c t a st rd = some (v :: st, r ++ rd) → tyV y v → -99 ≤ v ∧ v ≤ 99 ∨ y ≠ 1 → (∀ x ∈ r, 0 ≤ x ∧ x < 24) → Evd c t a (y :: ts) (sab ts st) st rd := by
    intro y v r e hv hb hr
    refine ⟨v :: st, r, e, ⟨hv, hs⟩, ?_, hr⟩
    rw [sab]
    split <;> omega
  have wl := fun (h0 : 0 ≤ a) (h1 : a ≤ 2) (b k : Int) (y : Int) (hy : y ∈ askW c a b k) => askW_rg hc h0 (by omega) hy
  have nil24 : ∀ x ∈ ([] : List Int), 0 ≤ x ∧ x < 24 := fun x hx => by cases hx
  rcases ty1_cs h with rfl | rfl | rfl | rfl | rfl | rfl | rfl | rfl | rfl | rfl | rfl | rfl | rfl | rfl | rfl | rfl | rfl | rfl | rfl | rfl | rfl | rfl | rfl
  · obtain ⟨h1, rfl⟩ := tyL_of h
    exact Or.inr (leaf ev1_22 tyV1 (by omega) nil24)
  · obtain ⟨h1, rfl⟩ := tyL_of h
    exact Or.inr (leaf ev1_13 (tyV0 (by omega)) (by omega) nil24)
  · cases h
    exact Or.inr (leaf ev1_14 (tyV0 (by omega)) (by omega) nil24)
  · obtain ⟨h1, rfl⟩ := tyL_of h
    have := hc.1 a h1.1 (by omega)
    exact Or.inr (leaf ev1_8 (tyV0 this) (by omega) (fun x hx => by rw [List.mem_singleton] at hx; omega))
  · obtain ⟨h1, rfl⟩ := tyL_of h
    have := hc.2.1 (3 + a) (by omega) (by omega)
    exact Or.inr (leaf ev1_9 tyV1 (by omega) (fun x hx => by rw [List.mem_singleton] at hx; omega))
  · obtain ⟨r, rfl, rfl⟩ := tyU_of h
    obtain ⟨v, vs, rfl, hv, hvs⟩ := hs.cons
    by_cases hn : v = -1
    · subst hn; exact Or.inl rfl
    · have hv := hv.1 rfl
      have := hc.nd (x := v) (by omega) (by omega)
      refine Or.inr ⟨c (6 + 3 * v) :: vs, [6 + 3 * v], by rw [ev1_10, cel1_c hn], ⟨tyV0 (by omega), hvs⟩, by rw [sab, sab, if_neg (by decide), if_neg (by decide)]; omega, fun x hx => by rw [List.mem_singleton] at hx; omega⟩
  · obtain ⟨r, rfl, rfl⟩ := tyU_of h
    obtain ⟨v, vs, rfl, hv, hvs⟩ := hs.cons
    by_cases hn : v = -1
    · subst hn; exact Or.inl rfl
    · have hv := hv.1 rfl
      have := hc.nd (x := v) (by omega) (by omega)
      refine Or.inr ⟨c (7 + 3 * v) :: vs, [7 + 3 * v], by rw [ev1_11, cel1_c hn], ⟨tyV0 (by omega), hvs⟩, by rw [sab, sab, if_neg (by decide), if_neg (by decide)]; omega, fun x hx => by rw [List.mem_singleton] at hx; omega⟩
  · obtain ⟨r, rfl, rfl⟩ := tyU_of h
    obtain ⟨v, vs, rfl, hv, hvs⟩ := hs.cons
    by_cases hn : v = -1
    · subst hn; exact Or.inl rfl
    · have hv := hv.1 rfl
      have := hc.nd (x := v) (by omega) (by omega)
      refine Or.inr ⟨c (8 + 3 * v) :: vs, [8 + 3 * v], by rw [ev1_12, cel1_c hn], ⟨tyV1, hvs⟩, by rw [sab, sab, if_pos rfl, if_neg (by decide)]; omega, fun x hx => by rw [List.mem_singleton] at hx; omega⟩
  · obtain ⟨h1, rfl⟩ := tyL_of h
    have := way_len c a
    exact Or.inr (leaf ev1_19 tyV1 (by omega) (wl h1.1 h1.2 0 0))
  · obtain ⟨h1, rfl⟩ := tyL_of h
    have := totW_bd hc h1.1 (by omega)
    exact Or.inr (leaf ev1_20 tyV1 (by omega) (wl h1.1 h1.2 0 1))
  · obtain ⟨h1, rfl⟩ := tyL_of h
    exact Or.inr (leaf ev1_0 (tyV2 bi_01) (Or.inr (by decide)) (wl h1.1 h1.2 0 0))
  · obtain ⟨h1, rfl⟩ := tyL_of h
    exact Or.inr (leaf ev1_1 (tyV2 bi_01) (Or.inr (by decide)) (wl h1.1 h1.2 1 0))
  · obtain ⟨h1, rfl⟩ := tyL_of h
    exact Or.inr (leaf ev1_2 (tyV2 bi_01) (Or.inr (by decide)) (wl h1.1 h1.2 0 1))
  · obtain ⟨h1, rfl⟩ := tyL_of h
    exact Or.inr (leaf ev1_25 tyV3 (Or.inr (by decide)) (wl h1.1 h1.2 0 0))
  · cases h2 : tyL 2 a 2 ts with
    | none => rw [show ty1 3 a ts = (tyL 2 a 2 ts).bind fun _ => tyU 3 2 ts from rfl, h2] at h; cases h
    | some z =>
      rw [show ty1 3 a ts = (tyL 2 a 2 ts).bind fun _ => tyU 3 2 ts from rfl, h2] at h
      have h1 := (tyL_of h2).1
      obtain ⟨r, rfl, rfl⟩ := tyU_of (show tyU 3 2 ts = some ts' from h)
      obtain ⟨v, vs, rfl, hv, hvs⟩ := hs.cons
      refine Or.inr ⟨bi (bAnd v (msk (way c a)) = 0) :: vs, askW c a 0 0, ev1_3, ⟨tyV2 bi_01, hvs⟩, by rw [sab, sab, if_neg (by decide), if_neg (by decide)]; omega, wl h1.1 h1.2 0 0⟩
  · obtain ⟨r, rfl, rfl⟩ := tyU_of h
    obtain ⟨v, vs, rfl, hv, hvs⟩ := hs.cons
    have := hv.2 rfl
    refine Or.inr ⟨(1 - v) :: vs, [], ev1_18, ⟨tyV2 (by omega), hvs⟩, by rw [sab, sab, if_neg (by decide), if_neg (by decide)]; omega, nil24⟩
  all_goals (obtain ⟨r, rfl, rfl⟩ := tyD_of h; obtain ⟨v, vs, rfl, hv, hvs⟩ := hs.cons; obtain ⟨u, us, rfl, hu, hus⟩ := hvs.cons)
  · refine Or.inr ⟨(u + v) :: us, [], ev1_75, ⟨tyV1, hus⟩, by rw [sab, sab, sab, if_pos rfl, if_pos rfl, if_pos rfl]; omega, nil24⟩
  · refine Or.inr ⟨(u - v) :: us, [], ev1_77, ⟨tyV1, hus⟩, by rw [sab, sab, sab, if_pos rfl, if_pos rfl, if_pos rfl]; omega, nil24⟩
  · refine Or.inr ⟨bi (u < v) :: us, [], ev1_92, ⟨tyV2 bi_01, hus⟩, by rw [sab, sab, sab, if_neg (by decide), if_pos rfl, if_pos rfl]; omega, nil24⟩
  · refine Or.inr ⟨bi (v < u) :: us, [], ev1_94, ⟨tyV2 bi_01, hus⟩, by rw [sab, sab, sab, if_neg (by decide), if_pos rfl, if_pos rfl]; omega, nil24⟩
  · refine Or.inr ⟨bi (u = v) :: us, [], ev1_93, ⟨tyV2 bi_01, hus⟩, by rw [sab, sab, sab, if_neg (by decide), if_pos rfl, if_pos rfl]; omega, nil24⟩
  · refine Or.inr ⟨bAnd u v :: us, [], ev1_17, ⟨tyV2 (bAnd01 (hu.2 rfl) (hv.2 rfl)), hus⟩, by rw [sab, sab, sab, if_neg (by decide), if_neg (by decide)]; omega, nil24⟩
  · refine Or.inr ⟨bOr u v :: us, [], ev1_16, ⟨tyV2 (bOr01 (hu.2 rfl) (hv.2 rfl)), hus⟩, by rw [sab, sab, sab, if_neg (by decide), if_neg (by decide)]; omega, nil24⟩
/-! what isn't read doesn't matter -/
theorem wayL_loc {c c' : Int → Int} : ∀ (k : Nat) (vis : List Int) (a : Int), (∀ x ∈ wayL c k vis a, c' (6 + 3 * x) = c (6 + 3 * x)) → wayL c' k vis a = wayL c k vis a ∧ wayE c' k vis a = wayE c k vis a
  | 0, _, _, _ => ⟨rfl, rfl⟩
  | k + 1, vis, a, h => by
    by_cases e : a = -1 ∨ a ∈ vis
    · rw [wayL_stop e, wayL_stop e, wayE_stop e, wayE_stop e]; exact ⟨rfl, rfl⟩
    · rw [wayL, if_neg e] at h
      have h1 := h a List.mem_cons_self
      have := wayL_loc k (a :: vis) (c (6 + 3 * a)) (fun x hx => h x (List.mem_cons_of_mem _ hx))
      rw [wayL, wayL, wayE, wayE, if_neg e, if_neg e, if_neg e, if_neg e, h1, this.1, this.2]
      exact ⟨rfl, rfl⟩
theorem ask_next {c : Int → Int} {h b k x : Int} (hx : x ∈ way c h) : 6 + 3 * x ∈ askW c h b k := List.mem_cons_of_mem _ (List.mem_flatMap.mpr ⟨x, hx, List.mem_cons_self⟩)
theorem ask_back {c : Int → Int} {h k x : Int} (hx : x ∈ way c h) : 7 + 3 * x ∈ askW c h 1 k := List.mem_cons_of_mem _ (List.mem_flatMap.mpr ⟨x, hx, by unfold askN; simp⟩)
theorem ask_key {c : Int → Int} {h b x : Int} (hx : x ∈ way c h) : 8 + 3 * x ∈ askW c h b 1 := List.mem_cons_of_mem _ (List.mem_flatMap.mpr ⟨x, hx, by unfold askN; simp⟩)
theorem way_loc {c c' : Int → Int} {h b k : Int} (hag : ∀ x ∈ askW c h b k, c' x = c x) : way c' h = way c h ∧ wend c' h = wend c h := by
  have h0 : c' h = c h := hag h List.mem_cons_self
  have := wayL_loc (c := c) (c' := c') 6 [] (c h) (fun x hx => hag _ (ask_next hx))
  unfold way wend
  rw [h0]
  exact this
theorem askW_loc {c c' : Int → Int} {h b k : Int} (hag : ∀ x ∈ askW c h b k, c' x = c x) : askW c' h b k = askW c h b k := by
  unfold askW
  rw [(way_loc hag).1]
theorem totW_loc {c c' : Int → Int} {h b : Int} (hag : ∀ x ∈ askW c h b 1, c' x = c x) : totW c' h = totW c h := by
  unfold totW
  rw [(way_loc hag).1]
  congr 1
  exact List.map_congr_left (fun x hx => hag _ (ask_key hx))
theorem twin_loc {c c' : Int → Int} : ∀ (l : List Int) (p : Int), (∀ x ∈ l, c' (7 + 3 * x) = c (7 + 3 * x)) → twin c' p l = twin c p l
  | [], _, _ => rfl
  | x :: l, p, h => by rw [twin, twin, h x List.mem_cons_self, twin_loc l x (fun y hy => h y (List.mem_cons_of_mem _ hy))]
theorem rise_loc {c c' : Int → Int} : ∀ (l : List Int) (p : Int), (∀ x ∈ l, c' (8 + 3 * x) = c (8 + 3 * x)) → rise c' p l = rise c p l
  | [], _, _ => rfl
  | x :: l, p, h => by rw [rise, rise, h x List.mem_cons_self, rise_loc l _ (fun y hy => h y (List.mem_cons_of_mem _ hy))]
theorem ev1_loc {c c' : Int → Int} {t a : Int} {st rd st' rd' : List Int} (h : ev1 c t a st rd = some (st', rd')) (hag : ∀ x ∈ rd', c' x = c x) : ev1 c' t a st rd = some (st', rd') := by
  have wy : ∀ b k : Int, rd' = askW c a b k ++ rd → ∀ x ∈ askW c a b k, c' x = c x := fun b k e x hx => hag x (by rw [e]; exact List.mem_append_left _ hx)
  have fin : ∀ (v v' : Int) (r r' : List Int), some (v :: st, r ++ rd) = some (st', rd') → v' = v → r' = r → some (v' :: st, r' ++ rd) = some (st', rd') := fun v v' r r' e1 e2 e3 => by rw [e2, e3]; exact e1
  by_cases e : t = 22
  · subst e
    rw [ev1_22] at h ⊢; exact h
  have e22 := e; clear e
  by_cases e : t = 13
  · subst e
    rw [ev1_13] at h ⊢; exact h
  have e13 := e; clear e
  by_cases e : t = 14
  · subst e
    rw [ev1_14] at h ⊢; exact h
  have e14 := e; clear e
  by_cases e : t = 8
  · subst e
    rw [ev1_8] at h ⊢; exact fin _ _ _ _ h (hag a (by cases h; simp)) rfl
  have e8 := e; clear e
  by_cases e : t = 9
  · subst e
    rw [ev1_9] at h ⊢; exact fin _ _ _ _ h (hag (3 + a) (by cases h; simp)) rfl
  have e9 := e; clear e
  by_cases e : t = 10
  · subst e
    rw [ev1_10] at h ⊢
    cases st with
    | nil => cases h
    | cons x st =>
      by_cases hn : x = -1
      · subst hn; cases h
      · rw [cel1_c hn] at h ⊢
        cases h
        rw [hag (6 + 3 * x) (by simp)]
  have e10 := e; clear e
  by_cases e : t = 11
  · subst e
    rw [ev1_11] at h ⊢
    cases st with
    | nil => cases h
    | cons x st =>
      by_cases hn : x = -1
      · subst hn; cases h
      · rw [cel1_c hn] at h ⊢
        cases h
        rw [hag (7 + 3 * x) (by simp)]
  have e11 := e; clear e
  by_cases e : t = 12
  · subst e
    rw [ev1_12] at h ⊢
    cases st with
    | nil => cases h
    | cons x st =>
      by_cases hn : x = -1
      · subst hn; cases h
      · rw [cel1_c hn] at h ⊢
        cases h
        rw [hag (8 + 3 * x) (by simp)]
  have e12 := e; clear e
  by_cases e : t = 19
  · subst e
    have ag := wy 0 0 (by rw [ev1_19] at h; cases h; rfl)
    rw [ev1_19] at h ⊢
    exact fin _ _ _ _ h (by rw [(way_loc ag).1]) (askW_loc ag)
  have e19 := e; clear e
  by_cases e : t = 20
  · subst e
    have ag := wy 0 1 (by rw [ev1_20] at h; cases h; rfl)
    rw [ev1_20] at h ⊢
    exact fin _ _ _ _ h (totW_loc ag) (askW_loc ag)
  have e20 := e; clear e
  by_cases e : t = 0
  · subst e
    have ag := wy 0 0 (by rw [ev1_0] at h; cases h; rfl)
    rw [ev1_0] at h ⊢
    exact fin _ _ _ _ h (by rw [(way_loc ag).2]) (askW_loc ag)
  have e0 := e; clear e
  by_cases e : t = 1
  · subst e
    have ag := wy 1 0 (by rw [ev1_1] at h; cases h; rfl)
    rw [ev1_1] at h ⊢
    exact fin _ _ _ _ h (by rw [(way_loc ag).1, twin_loc _ _ (fun x hx => ag _ (ask_back hx))]) (askW_loc ag)
  have e1 := e; clear e
  by_cases e : t = 2
  · subst e
    have ag := wy 0 1 (by rw [ev1_2] at h; cases h; rfl)
    rw [ev1_2] at h ⊢
    exact fin _ _ _ _ h (by rw [(way_loc ag).1, rise_loc _ _ (fun x hx => ag _ (ask_key hx))]) (askW_loc ag)
  have e2 := e; clear e
  by_cases e : t = 25
  · subst e
    have ag := wy 0 0 (by rw [ev1_25] at h; cases h; rfl)
    rw [ev1_25] at h ⊢
    exact fin _ _ _ _ h (by rw [(way_loc ag).1]) (askW_loc ag)
  have e25 := e; clear e
  rw [ev1_el e22 e13 e14 e8 e9 e10 e11 e12 e19 e20 e0 e1 e2 e25] at h ⊢
  cases st with
  | nil => cases h
  | cons x st =>
    rw [ev2] at h ⊢
    by_cases e : t = 3
    · rw [if_pos e] at h ⊢
      have ag := wy 0 0 (by cases h; rfl)
      rw [(way_loc ag).1, askW_loc ag]
      exact h
    · rw [if_neg e] at h ⊢
      exact h
theorem ev1_rd {c : Int → Int} {t a : Int} {st rd st' rd' : List Int} (h : ev1 c t a st rd = some (st', rd')) : ∃ r, rd' = r ++ rd := by
  by_cases e : t = 22
  · subst e
    cases h; exact ⟨_, rfl⟩
  have e22 := e; clear e
  by_cases e : t = 13
  · subst e
    cases h; exact ⟨_, rfl⟩
  have e13 := e; clear e
  by_cases e : t = 14
  · subst e
    cases h; exact ⟨_, rfl⟩
  have e14 := e; clear e
  by_cases e : t = 8
  · subst e
    cases h; exact ⟨_, rfl⟩
  have e8 := e; clear e
  by_cases e : t = 9
  · subst e
    cases h; exact ⟨_, rfl⟩
  have e9 := e; clear e
  by_cases e : t = 19
  · subst e
    cases h; exact ⟨_, rfl⟩
  have e19 := e; clear e
  by_cases e : t = 20
  · subst e
    cases h; exact ⟨_, rfl⟩
  have e20 := e; clear e
  by_cases e : t = 0
  · subst e
    cases h; exact ⟨_, rfl⟩
  have e0 := e; clear e
  by_cases e : t = 1
  · subst e
    cases h; exact ⟨_, rfl⟩
  have e1 := e; clear e
  by_cases e : t = 2
  · subst e
    cases h; exact ⟨_, rfl⟩
  have e2 := e; clear e
  by_cases e : t = 25
  · subst e
    cases h; exact ⟨_, rfl⟩
  have e25 := e; clear e
  by_cases e : t = 10
  · subst e
    rw [ev1_10] at h
    cases st with
    | nil => cases h
    | cons x st =>
      by_cases hn : x = -1
      · subst hn; cases h
      · rw [cel1_c hn] at h
        cases h; exact ⟨_, rfl⟩
  have e10 := e; clear e
  by_cases e : t = 11
  · subst e
    rw [ev1_11] at h
    cases st with
    | nil => cases h
    | cons x st =>
      by_cases hn : x = -1
      · subst hn; cases h
      · rw [cel1_c hn] at h
        cases h; exact ⟨_, rfl⟩
  have e11 := e; clear e
  by_cases e : t = 12
  · subst e
    rw [ev1_12] at h
    cases st with
    | nil => cases h
    | cons x st =>
      by_cases hn : x = -1
      · subst hn; cases h
      · rw [cel1_c hn] at h
        cases h; exact ⟨_, rfl⟩
  have e12 := e; clear e
  rw [ev1_el e22 e13 e14 e8 e9 e10 e11 e12 e19 e20 e0 e1 e2 e25] at h
  cases st with
  | nil => cases h
  | cons x st =>
    rw [ev2] at h
    by_cases e : t = 3
    · rw [if_pos e] at h
      cases h; exact ⟨_, rfl⟩
    · rw [if_neg e] at h
      by_cases e' : t = 18
      · rw [if_pos e'] at h
        cases h; exact ⟨_, rfl⟩
      · rw [if_neg e'] at h
        cases st with
        | nil => cases h
        | cons y st => cases h; exact ⟨_, rfl⟩
theorem evs_rd {c : Int → Int} : ∀ (k : List CT) {st rd st' rd' : List Int}, evs c k st rd = some (st', rd') → ∃ r, rd' = r ++ rd
  | [], _, _, _, _, h => by cases h; exact ⟨[], rfl⟩
  | q :: k, st, rd, st', rd', h => by
    rw [evs] at h
    cases e : ev1 c q.1 q.2 st rd with
    | none => rw [e] at h; cases h
    | some s =>
      rw [e] at h
      obtain ⟨r1, h1⟩ := ev1_rd (st' := s.1) (rd' := s.2) e
      obtain ⟨r2, h2⟩ := evs_rd k h
      exact ⟨r2 ++ r1, by rw [h2, h1, List.append_assoc]⟩
theorem evs_loc {c c' : Int → Int} : ∀ (k : List CT) {st rd st' rd' : List Int}, evs c k st rd = some (st', rd') → (∀ x ∈ rd', c' x = c x) → evs c' k st rd = some (st', rd')
  | [], _, _, _, _, h, _ => h
  | q :: k, st, rd, st', rd', h, hag => by
    rw [evs] at h ⊢
    cases e : ev1 c q.1 q.2 st rd with
    | none => rw [e] at h; cases h
    | some s =>
      rw [e] at h
      obtain ⟨r, h2⟩ := evs_rd k h
      rw [ev1_loc (st' := s.1) (rd' := s.2) e (fun x hx => hag x (by rw [h2]; exact List.mem_append_right _ hx))]
      exact evs_loc k h hag
/-- code that fits leaves what fits -/
theorem evs_ty {c : Int → Int} (hc : VC c) : ∀ (k : List CT) {ts ts' : List Nat} {st : List Int} (rd : List Int), tyc k ts = some ts' → Tys ts st → evs c k st rd = none ∨ ∃ st' rd', evs c k st rd = some (st', rd' ++ rd) ∧ Tys ts' st' ∧ ∀ x ∈ rd', 0 ≤ x ∧ x < 24
  | [], ts, ts', st, rd, h, hs => by cases h; exact Or.inr ⟨st, [], rfl, hs, fun x hx => by cases hx⟩
  | q :: k, ts, ts', st, rd, h, hs => by
    rw [tyc] at h
    rw [evs]
    cases e : ty1 q.1 q.2 ts with
    | none => rw [e] at h; cases h
    | some t1 =>
      rw [e] at h
      rcases ev1_ty hc rd e hs with z | ⟨s1, r1, z1, z2, _, z3⟩
      · rw [z]; exact Or.inl rfl
      · rw [z1]
        rcases evs_ty hc k (r1 ++ rd) h z2 with z | ⟨s2, r2, y1, y2, y3⟩
        · exact Or.inl z
        · refine Or.inr ⟨s2, r2 ++ r1, by rw [List.append_assoc]; exact y1, y2, fun x hx => ?_⟩
          rcases List.mem_append.mp hx with q | q
          · exact y3 x q
          · exact z3 x q
