/-! what stays true of the machine -/
def TkE (N : Int) (tk nu nx : Int → Int) : Prop := ∀ f, 0 ≤ f → f ≤ N → (0 ≤ nu f ∧ nu f ≤ 100) ∧ (0 ≤ tk f ∧ tk f ≤ 300) ∧ tk f ≠ 24 ∧ (tk f ≠ 23 → f < nx f ∧ nx f ≤ N)
def lng (p v c : List CT) : Int := (p.length : Int) + v.length + c.length
def Gs (tk : Int → Int) (B N : Int) (s : MS) : Prop :=
  (0 ≤ s.1 ∧ s.1 ≤ N) ∧ (0 ≤ s.2.1 ∧ s.2.1 ≤ 60) ∧ (flt s = -1 → s.2.1 = 60 → tk s.1 = 91 ∨ tk s.1 = 23) ∧ (-s.2.1 ≤ s.2.2.1 ∧ s.2.2.1 ≤ 8) ∧ (∀ z ∈ stk s, Sy z) ∧ (stk s).length ≤ 256 ∧ (-1 ≤ flt s ∧ flt s ≤ N) ∧ (flt s = -1 → B + lng s.2.2.2.2.2.2.2.1 s.2.2.2.2.2.2.2.2.1 s.2.2.2.2.2.2.2.2.2 + cE (stk s) ≤ s.1 ∧ lng s.2.2.2.2.2.2.2.1 s.2.2.2.2.2.2.2.2.1 s.2.2.2.2.2.2.2.2.2 + cE (stk s) ≤ s.2.1)
theorem psG_len {L r : List Int} (h : r.length ≤ 256) : (psG L r).length ≤ 256 := by
  unfold psG
  induction L with
  | nil => exact h
  | cons y L ih =>
    rw [List.foldr_cons]
    split
    · rename_i h2
      rw [List.length_cons]
      omega
    · exact ih
theorem Gs_tkS {tk nu nx : Int → Int} {B N : Int} (hT : TkE N tk nu nx) {L r : List Int} {f u b tg e : Int} {p v c : List CT} (h0 : 0 ≤ f) (h1 : f ≤ N) (hu : 0 ≤ u) (hu1 : u < 60) (hb : -u - 1 ≤ b) (hb1 : b ≤ 8) (hL : ∀ z ∈ L, Sy z) (hr : ∀ z ∈ r, Sy z) (hrl : r.length ≤ 256) (hx : tk f ≠ 23) (hc : B + lng p v c + cE L + cE r ≤ f + 1) (hc2 : lng p v c + cE L + cE r ≤ u + 1) : Gs tk B N (tkS psG tk nx L f u b (-1) r tg e p v c) := by
  obtain ⟨-, -, -, h4⟩ := hT f h0 h1
  have h4 := h4 hx
  unfold tkS
  split
  · rename_i hh
    exact ⟨⟨by show 0 ≤ nx f; omega, h4.2⟩, ⟨by show 0 ≤ u + 1; omega, by show u + 1 ≤ 60; omega⟩, fun z => absurd (show nx f = -1 from z) (by omega), ⟨by show -(u + 1) ≤ b; omega, hb1⟩, psG_Sy hL (fun z hz => by cases hz), psG_len (by simp), ⟨by show -1 ≤ nx f; omega, h4.2⟩, fun z => absurd (show nx f = -1 from z) (by omega)⟩
  · rename_i hh
    refine ⟨⟨by show 0 ≤ nx f; omega, h4.2⟩, ⟨by show 0 ≤ u + 1; omega, by show u + 1 ≤ 60; omega⟩, fun _ z => ?_, ⟨by show -(u + 1) ≤ b; omega, hb1⟩, psG_Sy hL hr, psG_len hrl, ⟨by show (-1 : Int) ≤ -1; omega, by show -1 ≤ N; omega⟩, fun _ => ?_⟩
    · have z : u + 1 = 60 := z
      show tk (nx f) = 91 ∨ tk (nx f) = 23
      by_cases q1 : tk (nx f) = 91
      · exact Or.inl q1
      · by_cases q2 : tk (nx f) = 23
        · exact Or.inr q2
        · exact absurd ⟨by omega, q1, q2⟩ hh
    · show B + lng p v c + cE (psG L r) ≤ nx f ∧ lng p v c + cE (psG L r) ≤ u + 1
      have := psG_cE (L := L) (r := r)
      omega
theorem Gs_flS {tk : Int → Int} {B N f u b fl tg e : Int} {p v c : List CT} (h0 : 0 ≤ f) (h1 : f ≤ N) (hu : 0 ≤ u) (hu1 : u ≤ 60) (hb : -u ≤ b) (hb1 : b ≤ 8) (hf : -1 ≤ fl ∧ fl ≤ N) : Gs tk B N (flS f u b fl tg e p v c) := by
  unfold flS
  have hne : ¬ (if fl = -1 then f else fl) = -1 := by split <;> omega
  exact ⟨⟨h0, h1⟩, ⟨hu, hu1⟩, fun z => absurd z hne, ⟨hb, hb1⟩, fun z hz => (by cases hz), by show (0 : Nat) ≤ 256; omega, ⟨by show -1 ≤ (if fl = -1 then f else fl); split <;> omega, by show (if fl = -1 then f else fl) ≤ N; split <;> omega⟩, fun z => absurd z hne⟩
theorem lng_1 {p v c : List CT} {q : CT} : lng p v (c ++ [q]) = lng p v c + 1 := by simp [lng]; omega
theorem Gs_mv {tk nu nx : Int → Int} {B N o : Int} (hT : TkE N tk nu nx) {s : MS} (h : Gs tk B N s) : Gs tk B N (mv psG tk nu nx o s) := by
  obtain ⟨f, u, b, fl, k, tg, e, p, v, c⟩ := s
  cases k with
  | nil => exact h
  | cons y r =>
    obtain ⟨⟨h0, h1⟩, ⟨h2, h3⟩, h4, ⟨h5, h6⟩, h7, h8, h9, h10⟩ := h
    have h0 : 0 ≤ f := h0
    have h1 : f ≤ N := h1
    have h2 : 0 ≤ u := h2
    have h3 : u ≤ 60 := h3
    have h4 : fl = -1 → u = 60 → tk f = 91 ∨ tk f = 23 := h4
    have h5 : -u ≤ b := h5
    have h6 : b ≤ 8 := h6
    have h9 : -1 ≤ fl ∧ fl ≤ N := h9
    have h10 : fl = -1 → B + lng p v c + cE (y :: r) ≤ f ∧ lng p v c + cE (y :: r) ≤ u := h10
    have hy : Sy y := h7 y List.mem_cons_self
    have hr : ∀ z ∈ r, Sy z := fun z hz => h7 z (List.mem_cons_of_mem _ hz)
    have hrl : r.length + 1 ≤ 256 := h8
    have h4' : fl = -1 → tk f ≠ 91 → tk f ≠ 23 → u < 60 := fun z1 z2 z3 => by
      by_cases hu : u = 60
      · rcases h4 z1 hu with q | q
        · exact absurd q z2
        · exact absurd q z3
      · omega
    have hc0 := cE_0 r
    rw [cE] at h10
    by_cases hy7 : 700 ≤ y
    · rw [if_neg (by omega)] at h10
      rw [mv_7 hy7]
      cases hq : prd o (tkn tk f fl) y with
      | none => exact Gs_flS h0 h1 h2 h3 h5 h6 h9
      | some q =>
        show Gs tk B N (if q.1 = 1 then _ else _)
        obtain ⟨q0, q1⟩ := prd_tk hq
        have qS := prd_Sy hq
        have qE := prd_cE hq
        have hlen : lng (pNw y p v c) (vNw y v c) (cNw y c) ≤ lng p v c := by
          by_cases a1 : y = 703
          · subst a1
            show lng (p ++ v ++ c) [] [] ≤ lng p v c
            unfold lng
            simp
            omega
          · by_cases a2 : y = 704
            · subst a2
              show lng p (v ++ c) [] ≤ lng p v c
              unfold lng
              simp
              omega
            · rw [pNw_n a1, vNw_n a1 a2, cNw_n a1 a2]
              omega
        split
        · rename_i ht
          obtain ⟨x1, x2, x3⟩ := q1 ht
          have hfl : fl = -1 := by
            by_cases hfl : fl = -1
            · exact hfl
            · unfold tkn at x2
              rw [if_neg hfl] at x2
              exact absurd rfl x2
          subst hfl
          have ex : tkn tk f (-1) = tk f := rfl
          rw [ex] at x1 x2 x3
          have h10 := h10 rfl
          exact Gs_tkS hT h0 h1 h2 (h4' rfl x3 x1) (by omega) h6 qS hr (by omega) x1 (by omega) (by omega)
        · rename_i ht
          refine ⟨⟨h0, h1⟩, ⟨h2, h3⟩, h4, ⟨h5, h6⟩, psG_Sy qS hr, psG_len (by omega), h9, fun z => ?_⟩
          have h10 := h10 z
          show B + lng (pNw y p v c) (vNw y v c) (cNw y c) + cE (psG q.2 r) ≤ f ∧ lng (pNw y p v c) (vNw y v c) (cNw y c) + cE (psG q.2 r) ≤ u
          have := psG_cE (L := q.2) (r := r)
          omega
    · by_cases hy4 : 400 ≤ y
      · rw [mv_4 hy4 (by omega)]
        rw [if_pos (by omega)] at h10
        refine ⟨⟨h0, h1⟩, ⟨h2, h3⟩, h4, ⟨h5, h6⟩, hr, by show r.length ≤ 256; omega, h9, fun z => ?_⟩
        have h10 := h10 z
        show B + lng p v (c ++ [(y - 400, 0)]) + cE r ≤ f ∧ lng p v (c ++ [(y - 400, 0)]) + cE r ≤ u
        rw [lng_1]
        omega
      · rw [if_neg (by omega)] at h10
        by_cases hy3 : 300 ≤ y
        · rw [mv_3 hy3 (by omega)]
          split
          · exact Gs_flS h0 h1 h2 h3 h5 h6 h9
          · rename_i hx
            have hx22 : tkn tk f fl = 22 := by
              by_cases q : tkn tk f fl = 22
              · exact q
              · exact absurd (Or.inl q) hx
            have hfl : fl = -1 := by
              by_cases hfl : fl = -1
              · exact hfl
              · unfold tkn at hx22
                rw [if_neg hfl] at hx22
                exact absurd hx22 (by decide)
            subst hfl
            have ex : tk f = 22 := hx22
            have h10 := h10 rfl
            have hlen : lng p v (if y = 326 ∨ y = 327 then c else c ++ [(y - 300, nu f)]) ≤ lng p v c + 1 := by
              split
              · omega
              · rw [lng_1]; omega
            have hE : cE [] = 0 := rfl
            exact Gs_tkS hT h0 h1 h2 (h4' rfl (by omega) (by omega)) (by omega) h6 (fun z hz => by cases hz) hr (by omega) (by omega) (by omega) (by omega)
        · rw [mv_2 (by omega)]
          split
          · exact Gs_flS h0 h1 h2 h3 h5 h6 h9
          · rename_i hx
            have hfl : fl = -1 := by
              by_cases hfl : fl = -1
              · exact hfl
              · exact absurd (Or.inl hfl) hx
            subst hfl
            have ex : tk f = y := by
              by_cases q : tk f = y
              · exact q
              · exact absurd (Or.inr (Or.inl q)) hx
            have h10 := h10 rfl
            have hE : cE [] = 0 := rfl
            have hb : ¬ ((y = 72 ∨ y = 123) ∧ 8 ≤ b) := fun z => hx (Or.inr (Or.inr z))
            have hy := hy.1
            unfold Sy0 at hy
            refine Gs_tkS hT h0 h1 h2 (h4' rfl (by omega) (by omega)) ?_ ?_ (fun z hz => by cases hz) hr (by omega) (by omega) (by omega) (by omega)
            · split
              · omega
              · split <;> omega
            · split
              · omega
              · split <;> omega
