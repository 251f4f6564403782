/-! laws: what they come to -/
theorem ev1_nn {c : Int → Int} {t a : Int} {ts ts' : List Nat} {st : List Int} (rd : List Int) (h : ty1 t a ts = some ts') (hs : Tys ts st) (h10 : t ≠ 10) (h11 : t ≠ 11) (h12 : t ≠ 12) : ev1 c t a st rd ≠ none := by
  rcases ty1_cs h with rfl | rfl | rfl | rfl | rfl | rfl | rfl | rfl | rfl | rfl | rfl | rfl | rfl | rfl | rfl | rfl | rfl | rfl | rfl | rfl | rfl | rfl | rfl
  iterate 5 (intro z; cases z)
  · exact absurd rfl h10
  · exact absurd rfl h11
  · exact absurd rfl h12
  iterate 6 (intro z; cases z)
  · cases h2 : tyL 2 a 2 ts with
    | none => rw [show ty1 3 a ts = (tyL 2 a 2 ts).bind fun _ => tyU 3 2 ts from rfl, h2] at h; cases h
    | some z =>
      rw [show ty1 3 a ts = (tyL 2 a 2 ts).bind fun _ => tyU 3 2 ts from rfl, h2] at h
      obtain ⟨r, rfl, rfl⟩ := tyU_of (show tyU 3 2 ts = some ts' from h)
      obtain ⟨v, vs, rfl, hv, hvs⟩ := hs.cons
      intro z; cases z
  · obtain ⟨r, rfl, rfl⟩ := tyU_of h
    obtain ⟨v, vs, rfl, hv, hvs⟩ := hs.cons
    intro z; cases z
  all_goals (obtain ⟨r, rfl, rfl⟩ := tyD_of h; obtain ⟨v, vs, rfl, hv, hvs⟩ := hs.cons; obtain ⟨u, us, rfl, hu, hus⟩ := hvs.cons)
  all_goals (intro z; cases z)
theorem ev1_r0 {c : Int → Int} {t a : Int} {st : List Int} (rd : List Int) : ev1 c t a st rd = (ev1 c t a st []).map fun s => (s.1, s.2 ++ rd) := by
  have ap : ∀ (v : List Int) (r : List Int), some (v, r ++ rd) = Option.map (fun s : SR => (s.1, s.2 ++ rd)) (some (v, r ++ [])) := fun v r => by simp
  have cl : ∀ o, cel1 c o st rd = (cel1 c o st []).map fun s => (s.1, s.2 ++ rd) := fun o => by
    cases st with
    | nil => rfl
    | cons x st =>
      by_cases hn : x = -1
      · subst hn; rfl
      · rw [cel1_c hn, cel1_c hn]; exact ap _ _
  by_cases e : t = 22
  · subst e; exact ap _ []
  have e22 := e; clear e
  by_cases e : t = 13
  · subst e; exact ap _ []
  have e13 := e; clear e
  by_cases e : t = 14
  · subst e; exact ap _ []
  have e14 := e; clear e
  by_cases e : t = 8
  · subst e; exact ap _ [a]
  have e8 := e; clear e
  by_cases e : t = 9
  · subst e; exact ap _ [3 + a]
  have e9 := e; clear e
  by_cases e : t = 10
  · subst e; exact cl 6
  have e10 := e; clear e
  by_cases e : t = 11
  · subst e; exact cl 7
  have e11 := e; clear e
  by_cases e : t = 12
  · subst e; exact cl 8
  have e12 := e; clear e
  by_cases e : t = 19
  · subst e; exact ap _ (askW c a 0 0)
  have e19 := e; clear e
  by_cases e : t = 20
  · subst e; exact ap _ (askW c a 0 1)
  have e20 := e; clear e
  by_cases e : t = 0
  · subst e; exact ap _ (askW c a 0 0)
  have e0 := e; clear e
  by_cases e : t = 1
  · subst e; exact ap _ (askW c a 1 0)
  have e1 := e; clear e
  by_cases e : t = 2
  · subst e; exact ap _ (askW c a 0 1)
  have e2 := e; clear e
  by_cases e : t = 25
  · subst e; exact ap _ (askW c a 0 0)
  have e25 := e; clear e
  rw [ev1_el e22 e13 e14 e8 e9 e10 e11 e12 e19 e20 e0 e1 e2 e25, ev1_el e22 e13 e14 e8 e9 e10 e11 e12 e19 e20 e0 e1 e2 e25]
  cases st with
  | nil => rfl
  | cons x st =>
    rw [ev2, ev2]
    by_cases e : t = 3
    · rw [if_pos e, if_pos e]; exact ap _ _
    · rw [if_neg e, if_neg e]
      by_cases e' : t = 18
      · rw [if_pos e', if_pos e']; exact ap _ _
      · rw [if_neg e', if_neg e']
        cases st with
        | nil => rfl
        | cons y st => exact ap _ _
theorem evs_r0 {c : Int → Int} : ∀ (k : List CT) (st rd : List Int), evs c k st rd = (evs c k st []).map fun s => (s.1, s.2 ++ rd)
  | [], st, rd => rfl
  | q :: k, st, rd => by
    rw [evs, evs, ev1_r0 rd]
    cases ev1 c q.1 q.2 st [] with
    | none => rfl
    | some s =>
      show evs c k s.1 (s.2 ++ rd) = (evs c k s.1 s.2).map fun s => (s.1, s.2 ++ rd)
      rw [evs_r0 k s.1 (s.2 ++ rd), evs_r0 k s.1 s.2]
      cases evs c k s.1 [] with
      | none => rfl
      | some z => simp
def Law (k : List CT) : Prop := tyc k [] = some [2] ∧ k.length ≤ 60 ∧ ∀ q ∈ k, q.1 ≠ 10 ∧ q.1 ≠ 11 ∧ q.1 ≠ 12
def valA (c : Int → Int) (k : List CT) : Int := match evs c k [] [] with
  | some (v :: _, _) => v
  | _ => 0
def askA (c : Int → Int) (k : List CT) : List Int := match evs c k [] [] with
  | some (_, r) => r
  | none => []
theorem evs_nn {c : Int → Int} (hc : VC c) : ∀ (k : List CT) {ts ts' : List Nat} {st : List Int} (rd : List Int), tyc k ts = some ts' → Tys ts st → (∀ q ∈ k, q.1 ≠ 10 ∧ q.1 ≠ 11 ∧ q.1 ≠ 12) → evs c k st rd ≠ none
  | [], _, _, _, _, _, _, _ => by intro z; cases z
  | q :: k, ts, ts', st, rd, h, hs, hn => by
    obtain ⟨t1, h1, h2⟩ := tyc_c h
    have hq := hn q List.mem_cons_self
    cases e : ev1 c q.1 q.2 st rd with
    | none => exact absurd e (ev1_nn rd h1 hs hq.1 hq.2.1 hq.2.2)
    | some s =>
      rw [evs_c (st' := s.1) (rd' := s.2) e]
      exact evs_nn hc k s.2 h2 (ev1_ty' hc h1 hs (st' := s.1) (rd' := s.2) e).1 (fun z hz => hn z (List.mem_cons_of_mem _ hz))
theorem law_ev {c : Int → Int} (hc : VC c) {k : List CT} (h : Law k) : (∀ rd, evs c k [] rd = some ([valA c k], askA c k ++ rd)) ∧ (valA c k = 0 ∨ valA c k = 1) ∧ ∀ x ∈ askA c k, 0 ≤ x ∧ x < 24 := by
  rcases evs_ty hc k (st := []) [] h.1 trivial with z | ⟨s, r, z1, z2, z3⟩
  · exact absurd z (evs_nn hc k [] h.1 trivial h.2.2)
  · obtain ⟨v, vs, rfl, hv, hvs⟩ := z2.cons
    cases vs with
    | cons _ _ => cases hvs
    | nil =>
      rw [List.append_nil] at z1
      have e1 : valA c k = v := by unfold valA; rw [z1]
      have e2 : askA c k = r := by unfold askA; rw [z1]
      rw [e1, e2]
      refine ⟨fun rd => ?_, hv.2 rfl, z3⟩
      rw [evs_r0, z1]
      rfl
/-- cells that aren't asked don't matter -/
theorem law_loc {c c' : Int → Int} (hc : VC c) {k : List CT} (h : Law k) (hag : ∀ x ∈ askA c k, c' x = c x) : valA c' k = valA c k ∧ askA c' k = askA c k := by
  have h1 := (law_ev hc h).1 []
  rw [List.append_nil] at h1
  have h2 := evs_loc (c' := c') k h1 hag
  constructor
  · show (match evs c' k [] [] with | some (v :: _, _) => v | _ => 0) = _
    rw [h2]
  · show (match evs c' k [] [] with | some (_, r) => r | none => []) = _
    rw [h2]
/-! a law of the reference's row -/
def lawC (ρ : Int → Int) (l : Int) : List CT := if ρ (2046 + 10 * l) = 4 then slc ρ 2286 (ρ (2046 + 10 * l + 4) - ρ (2046 + 10 * l + 3)).toNat (ρ (2046 + 10 * l + 3)) else if ρ (2046 + 10 * l) = 0 then [(0, ρ (2046 + 10 * l + 1))] else if ρ (2046 + 10 * l) = 1 then [(1, ρ (2046 + 10 * l + 1))] else if ρ (2046 + 10 * l) = 2 then [(2, ρ (2046 + 10 * l + 1))] else [(25, ρ (2046 + 10 * l + 1)), (3, ρ (2046 + 10 * l + 2))]
def WfLaw (ρ : Int → Int) (l : Int) : Prop := 0 ≤ ρ (2046 + 10 * l) ∧ ρ (2046 + 10 * l) ≤ 4 ∧ (ρ (2046 + 10 * l) = 4 → 0 ≤ ρ (2046 + 10 * l + 3) ∧ ρ (2046 + 10 * l + 3) ≤ ρ (2046 + 10 * l + 4) ∧ ρ (2046 + 10 * l + 4) ≤ 400) ∧ Law (lawC ρ l)
theorem WfLaw.cs {ρ : Int → Int} {l : Int} (h : WfLaw ρ l) : (ρ (2046 + 10 * l) = 4 ∧ lawC ρ l = slc ρ 2286 (ρ (2046 + 10 * l + 4) - ρ (2046 + 10 * l + 3)).toNat (ρ (2046 + 10 * l + 3)) ∧ 0 ≤ ρ (2046 + 10 * l + 3) ∧ ρ (2046 + 10 * l + 3) ≤ ρ (2046 + 10 * l + 4) ∧ ρ (2046 + 10 * l + 4) ≤ 400) ∨ (ρ (2046 + 10 * l) ≠ 4 ∧ (0 ≤ ρ (2046 + 10 * l + 1) ∧ ρ (2046 + 10 * l + 1) ≤ 2) ∧ ((ρ (2046 + 10 * l) = 0 ∧ lawC ρ l = [(0, ρ (2046 + 10 * l + 1))]) ∨ (ρ (2046 + 10 * l) = 1 ∧ lawC ρ l = [(1, ρ (2046 + 10 * l + 1))]) ∨ (ρ (2046 + 10 * l) = 2 ∧ lawC ρ l = [(2, ρ (2046 + 10 * l + 1))]) ∨ (ρ (2046 + 10 * l) = 3 ∧ lawC ρ l = [(25, ρ (2046 + 10 * l + 1)), (3, ρ (2046 + 10 * l + 2))] ∧ 0 ≤ ρ (2046 + 10 * l + 2) ∧ ρ (2046 + 10 * l + 2) ≤ 2))) := by
  obtain ⟨h0, h1, h4, hl⟩ := h
  have hty := hl.1
  have hc : ρ (2046 + 10 * l) = 4 ∨ ρ (2046 + 10 * l) = 0 ∨ ρ (2046 + 10 * l) = 1 ∨ ρ (2046 + 10 * l) = 2 ∨ ρ (2046 + 10 * l) = 3 := by omega
  rcases hc with e | e | e | e | e
  · have e2 : lawC ρ l = slc ρ 2286 (ρ (2046 + 10 * l + 4) - ρ (2046 + 10 * l + 3)).toNat (ρ (2046 + 10 * l + 3)) := by rw [lawC, if_pos e]
    exact Or.inl ⟨e, e2, h4 e⟩
  · have e2 : lawC ρ l = [(0, ρ (2046 + 10 * l + 1))] := by rw [lawC, if_neg (by omega), if_pos e]
    rw [e2] at hty
    obtain ⟨t1, q1, q2⟩ := tyc_c hty
    exact Or.inr ⟨by omega, (tyL_of (show tyL 2 _ 2 [] = some t1 from q1)).1, Or.inl ⟨e, e2⟩⟩
  · have e2 : lawC ρ l = [(1, ρ (2046 + 10 * l + 1))] := by rw [lawC, if_neg (by omega), if_neg (by omega), if_pos e]
    rw [e2] at hty
    obtain ⟨t1, q1, q2⟩ := tyc_c hty
    exact Or.inr ⟨by omega, (tyL_of (show tyL 2 _ 2 [] = some t1 from q1)).1, Or.inr (Or.inl ⟨e, e2⟩)⟩
  · have e2 : lawC ρ l = [(2, ρ (2046 + 10 * l + 1))] := by rw [lawC, if_neg (by omega), if_neg (by omega), if_neg (by omega), if_pos e]
    rw [e2] at hty
    obtain ⟨t1, q1, q2⟩ := tyc_c hty
    exact Or.inr ⟨by omega, (tyL_of (show tyL 2 _ 2 [] = some t1 from q1)).1, Or.inr (Or.inr (Or.inl ⟨e, e2⟩))⟩
  · have e2 : lawC ρ l = [(25, ρ (2046 + 10 * l + 1)), (3, ρ (2046 + 10 * l + 2))] := by rw [lawC, if_neg (by omega), if_neg (by omega), if_neg (by omega), if_neg (by omega)]
    rw [e2] at hty
    obtain ⟨t1, q1, q2⟩ := tyc_c hty
    obtain ⟨t2, q3, q4⟩ := tyc_c q2
    refine Or.inr ⟨by omega, (tyL_of (show tyL 2 _ 3 [] = some t1 from q1)).1, Or.inr (Or.inr (Or.inr ⟨e, e2, ?_⟩))⟩
    cases h2 : tyL 2 (ρ (2046 + 10 * l + 2)) 2 t1 with
    | none => rw [show ty1 (3, ρ (2046 + 10 * l + 2)).1 (3, ρ (2046 + 10 * l + 2)).2 t1 = (tyL 2 (ρ (2046 + 10 * l + 2)) 2 t1).bind fun _ => tyU 3 2 t1 from rfl, h2] at q3; cases q3
    | some z => exact (tyL_of h2).1
/-! masks of ways -/
theorem msk_snoc (L : List Int) (x : Int) : msk (L ++ [x]) = bOr (msk L) (bShl 1 (6 + 3 * x)) := by
  unfold msk
  rw [List.foldl_append]
  rfl
theorem msk_bm : ∀ (r : Nat) (L : List Int), L.length = r → (∀ x ∈ L, 0 ≤ x ∧ x ≤ 5) → Bm (msk L) (L.map fun x => 6 + 3 * x) := by
  intro r
  induction r with
  | zero =>
    intro L hl h
    cases L with
    | nil => exact Bm.nil
    | cons _ _ => cases hl
  | succ r ih =>
    intro L hl h
    have hne : L ≠ [] := fun z => by rw [z] at hl; cases hl
    have e := List.dropLast_concat_getLast hne
    have h1 := ih L.dropLast (by rw [List.length_dropLast]; omega) (fun x hx => h x (List.dropLast_subset L hx))
    have h2 := h (L.getLast hne) (List.getLast_mem hne)
    have h3 := h1.set (a := 6 + 3 * L.getLast hne) (by omega) (by omega)
    rw [← msk_snoc, e] at h3
    refine h3.congr (fun a => ?_)
    conv => rhs; rw [← e]
    rw [List.map_append, List.mem_append, List.mem_cons, List.map_cons, List.map_nil, List.mem_singleton]
    exact Or.comm
theorem bAnd0 {x y : Int} {L L' : List Int} (h : Bm x L) (h' : Bm y L') (h24 : ∀ a ∈ L, 0 ≤ a ∧ a < 32) : bAnd x y = 0 ↔ ∀ a ∈ L, a ∉ L' := by
  constructor
  · intro e a ha hb
    have h0 := h24 a ha
    have e1 := (h.2 a.toNat (by omega)).mpr (by rw [Int.toNat_of_nonneg h0.1]; exact ha)
    have e2 := (h'.2 a.toNat (by omega)).mpr (by rw [Int.toNat_of_nonneg h0.1]; exact hb)
    have e3 := tB_and x y a.toNat
    rw [e, e1, e2, tB_0] at e3
    cases e3
  · intro hd
    refine tB_ext (bAnd_rg _ _) ⟨by decide, by decide⟩ (fun i hi => ?_)
    rw [tB_and, tB_0]
    cases e1 : tB x i with
    | false => rfl
    | true =>
      have := hd i ((h.2 i hi).mp e1)
      cases e2 : tB y i with
      | false => rfl
      | true => exact absurd ((h'.2 i hi).mp e2) this
def apart (W W' : List Int) : Bool := W'.all fun x => decide (x ∉ W)
theorem apart_is {W W' : List Int} (hW : ∀ x ∈ W, 0 ≤ x ∧ x ≤ 5) (hW' : ∀ x ∈ W', 0 ≤ x ∧ x ≤ 5) : bAnd (msk W) (msk W') = 0 ↔ apart W W' = true := by
  rw [bAnd0 (msk_bm _ W rfl hW) (msk_bm _ W' rfl hW') (fun a ha => by obtain ⟨x, hx, rfl⟩ := List.mem_map.mp ha; have := hW x hx; omega)]
  unfold apart
  rw [List.all_eq_true]
  constructor
  · intro h x hx
    rw [decide_eq_true_eq]
    intro hw
    exact h (6 + 3 * x) (List.mem_map.mpr ⟨x, hw, rfl⟩) (List.mem_map.mpr ⟨x, hx, rfl⟩)
  · intro h a ha ha'
    obtain ⟨x, hx, rfl⟩ := List.mem_map.mp ha
    obtain ⟨y, hy, e⟩ := List.mem_map.mp ha'
    have : y = x := by omega
    subst this
    have := h y hy
    rw [decide_eq_true_eq] at this
    exact this hx
def lst (p : Int) : List Int → Int
  | [] => p
  | x :: l => lst x l
theorem lst_snoc (x : Int) : ∀ (l : List Int) (p : Int), lst p (l ++ [x]) = x
  | [], _ => rfl
  | _ :: l, _ => lst_snoc x l _
theorem twin_snoc {c : Int → Int} (x : Int) : ∀ (l : List Int) (p : Int), twin c p (l ++ [x]) = (twin c p l && decide (c (7 + 3 * x) = lst p l))
  | [], p => by rw [List.nil_append, twin, twin, twin, Bool.and_true, Bool.true_and]; rfl
  | y :: l, p => by rw [List.cons_append, twin, twin, twin_snoc x l y, Bool.and_assoc]; rfl
theorem rise_snoc {c : Int → Int} (x : Int) : ∀ (l : List Int) (p : Int), rise c p (l ++ [x]) = (rise c p l && decide (lst p (l.map fun x => c (8 + 3 * x)) ≤ c (8 + 3 * x)))
  | [], p => by simp [rise, lst]
  | y :: l, p => by rw [List.cons_append, rise, rise, rise_snoc x l _, Bool.and_assoc]; rfl
