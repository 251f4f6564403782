/-! the reference: reckon, whether laws hold, what is asked for them -/
section RNGF
variable {d : Nat} {M : MT} {Q : V → MI → Nat → MR → Prop} {S : Nat × MR × Nat × Nat} {mi : MI} {pc : Nat} {ls st : List V}
/-- an int field is one of 32 bits -/
theorem s_rngf {g j C N k0 : Nat} (hk : kd j = (C, N)) (hC : C < 20) (hk0 : k0 < N) (hft : ft C k0 = .int) (ha : vR (some (g, j)) ∈ ls ++ st) (k : rg (mi g j k0) → Run d M Q S mi pc ls st) : Run d M Q S mi pc ls st := by
  intro p l e R s m args below meth c D ca sx A n0 ρ0 Qm C0 Re ρ H locs mls mst hW hS hE hn hl hs
  have hal : ∃ i, i < S.1 ∧ nm i = (g, j) := by
    rcases List.mem_append.mp ha with h | h
    · obtain ⟨i, hi⟩ := List.getElem?_of_mem h
      obtain ⟨v, -, hr⟩ := hl.get hi (fun q => by cases q)
      exact hr.2
    · exact Rs.al hs h
  obtain ⟨i, hi, ha⟩ := hal
  obtain ⟨hSc, h241, ws, hlen, hP, hD, hc⟩ := id hW
  obtain ⟨e0, he1, he2⟩ := hc i hi
  rw [ha] at he1 he2
  have hf : rg (mi g j k0) := by
    unfold Rc at he2; simp only [hk] at he2
    rcases he2 with ⟨-, fs, -, -, h⟩ | ⟨h, -⟩ | ⟨h, -⟩ | ⟨h, -⟩ | ⟨h, -⟩
    · obtain ⟨v, -, hv⟩ := h k0 hk0
      rw [hft] at hv
      obtain ⟨y, -, ey⟩ := (show Rv S.1 ρ sx (vI (mi g j k0)) v from hv)
      rw [← ey]
      exact ⟨i32_lo _, i32_hi _⟩
    all_goals omega
  exact k hf p l e R s m args below meth c D ca sx A n0 ρ0 Qm C0 Re ρ H locs mls mst hW hS hE hn hl hs
end RNGF
theorem Bm.ex {x : Int} (h : rg x) : ∃ L, Bm x L := ⟨((List.range 32).filter fun i => tB x i).map fun (i : Nat) => (i : Int), h, fun i hi => by
  rw [List.mem_map]
  constructor
  · intro z
    exact ⟨i, List.mem_filter.mpr ⟨List.mem_range.mpr hi, z⟩, rfl⟩
  · rintro ⟨j, hj, e⟩
    have : j = i := by omega
    subst this
    exact (List.mem_filter.mp hj).2⟩
theorem ev1_ty' {c : Int → Int} (hc : VC c) {t a : Int} {ts ts' : List Nat} {st rd st' rd' : List Int} (h : ty1 t a ts = some ts') (hs : Tys ts st) (he : ev1 c t a st rd = some (st', rd')) : Tys ts' st' ∧ sab ts' st' ≤ sab ts st + 99 := by
  rcases ev1_ty hc rd h hs with z | ⟨s1, r1, z1, z2, z3, _⟩
  · rw [z] at he; cases he
  · rw [z1] at he; cases he; exact ⟨z2, z3⟩
theorem evs_c {c : Int → Int} {q : CT} {k : List CT} {st rd st' rd' : List Int} (h : ev1 c q.1 q.2 st rd = some (st', rd')) : evs c (q :: k) st rd = evs c k st' rd' := by rw [evs, h]
theorem evs_n {c : Int → Int} {q : CT} {k : List CT} {st rd : List Int} (h : ev1 c q.1 q.2 st rd = none) : evs c (q :: k) st rd = none := by rw [evs, h]
theorem tyc_c {q : CT} {k : List CT} {ts ts' : List Nat} (h : tyc (q :: k) ts = some ts') : ∃ t1, ty1 q.1 q.2 ts = some t1 ∧ tyc k t1 = some ts' := by
  rw [tyc] at h
  cases e : ty1 q.1 q.2 ts with
  | none => rw [e] at h; cases h
  | some t1 => rw [e] at h; exact ⟨t1, rfl, h⟩
theorem Arr.snoc' {f : Int → Int} {L : List Int} {v k : Int} (h : Arr f L) (hk : k = L.length) : Arr (ud f k v) (L ++ [v]) := by subst hk; exact h.snoc
theorem Arr.ext {f g : Int → Int} {L : List Int} (h : Arr f L) (he : ∀ i : Nat, i < L.length → g i = f i) : Arr g L := fun i hi => by rw [he i hi]; exact h i hi
theorem Arr.top {f : Int → Int} {L : List Int} {v : Int} (h : Arr f (L ++ [v])) : f (L.length : Int) = v := h.at (by rw [List.getElem?_append_right (Nat.le_refl _), Nat.sub_self]; rfl)
section REF5
variable {d n G : Nat} {mr : MR} {Q : V → MI → Nat → MR → Prop}
theorem reckon_loop (hL : Lay G mr) {mi0 : MI} {b f l : Int} {t : Nat} {T : Option SR} (hb : b = 2286 ∨ b = 3086) (hl : l ≤ 400) (hc : VC (cel mi0)) (hQ : ∀ mi' v, Ch pE mi0 mi' → ((T = none ∧ mi' 0 80 30 = 1) ∨ ∃ rd, T = some ([v], rd) ∧ Bm (mi' 0 80 9) rd ∧ mi' 0 80 30 = mi0 0 80 30) → Q (vI v) mi' n mr) : ∀ (r : Nat) (k : Int) (ts : List Nat) (st rd : List Int) (mi : MI) (x6 x7 : V), k + r = l → 0 ≤ k → tyc (slc (mi0 0 81) b r k) ts = some [t] → Tys ts st → sab ts st ≤ 99 * k → (st.length : Int) ≤ k → Arr (mi 0 92) st.reverse → Ch pE mi0 mi → Bm (mi 0 80 9) rd → ((evs (cel mi0) (slc (mi0 0 81) b r k) st rd = T ∧ mi 0 80 30 = mi0 0 80 30) ∨ (T = none ∧ mi 0 80 30 = 1)) → Run (d+5) mt_X12_reckon Q (n, mr, 0, 0) mi 6 [vR (some (0, 80)), vI b, vI f, vI l, vI (st.length : Int), vI k, x6, x7] [] := by
  intro r
  induction r with
  | zero =>
    intro k ts st rd mi x6 x7 hk hk0 hty hT hsab hlen hA hCh hB hmode
    cases hty
    obtain ⟨v, vs, rfl, hv, hvs⟩ := hT.cons
    cases vs with
    | cons _ _ => cases hvs
    | nil =>
      have e : mi 0 92 0 = v := hA.at (i := 0) (v := v) rfl
      simp only [List.length_cons, List.length_nil] at hlen ⊢
      refine s_iload (dc kc_X12_reckon_0 4 rfl) rfl <| s_iload_n (dc kc_X12_reckon_0 5 rfl) rfl <| s_icmp_ge (tgt := 170) (dc kc_X12_reckon_0 6 rfl) rfl (fun c9 => (s_iload (dc kc_X12_reckon_2 18 rfl) rfl <| s_if_ne (tgt := 179) (dc kc_X12_reckon_2 19 rfl) rfl (fun c172 => (r_aload_n (dc kc_X12_reckon_2 22 rfl) rfl <| s_getA (dc kc_X12_reckon_2 23 rfl) fl_X12_48 (ly_80_29 hL) <| k_i (dc kc_X12_reckon_2 24 rfl) rfl <| s_iaload (dc kc_X12_reckon_2 25 rfl) rfl (by first | omega | (simp [up] <;> omega)) (by first | omega | (simp [up] <;> omega)) <| s_ireturn (dc kc_X12_reckon_2 26 rfl) rfl (Nat.zero_le _) (Nat.zero_le _) ?_)) (fun c172 => (k_i (dc kc_X12_reckon_2 20 rfl) rfl <| s_goto (tgt := 185) (dc kc_X12_reckon_2 21 rfl) rfl <| s_ireturn (dc kc_X12_reckon_2 26 rfl) rfl (Nat.zero_le _) (Nat.zero_le _) ?_)))) (fun c9 => (?_))
      · rw [e]
        refine hQ _ _ hCh ?_
        rcases hmode with ⟨h1, h2⟩ | h
        · exact Or.inr ⟨rd, h1.symm, hB, h2⟩
        · exact Or.inl h
      · exfalso; omega
      · exfalso; omega
  | succ r ih =>
    intro k ts st rd mi x6 x7 hk hk0 hty hT hsab hlen hA hCh hB hmode
    have hrow : mi 0 81 = mi0 0 81 := hCh.row (fun _ => rfl)
    have hcel : cel mi = cel mi0 := by unfold cel; rw [hrow]
    have hlt := hT.len
    rw [slc] at hty hmode
    obtain ⟨t1, hty1, hty2⟩ := tyc_c hty
    rw [← hrow] at hty1
    have goon : ∀ (st' rd' : List Int) (mi' : MI), (st'.length : Int) ≤ k + 1 → Tys t1 st' → sab t1 st' ≤ 99 * k + 99 → Arr (mi' 0 92) st'.reverse → Ch pE mi0 mi' → Bm (mi' 0 80 9) rd' → mi' 0 80 30 = mi 0 80 30 → ev1 (cel mi) (tokOf (mi 0 81 (b + 2 * k)) (mi 0 81 (b + 2 * k + 1))).1 (tokOf (mi 0 81 (b + 2 * k)) (mi 0 81 (b + 2 * k + 1))).2 st rd = some (st', rd') → Run (d+5) mt_X12_reckon Q (n, mr, 0, 0) mi' 6 [vR (some (0, 80)), vI b, vI f, vI l, vI (st'.length : Int), vI (k + 1), vI (mi 0 81 (b + 2 * k)), vI (mi 0 81 (b + 2 * k + 1))] [] := by
      intro st' rd' mi' g1 g2 g3 g4 g5 g6 g7 g8
      rw [hcel, hrow] at g8
      refine ih (k + 1) t1 st' rd' mi' _ _ (by omega) (by omega) hty2 g2 (by omega) g1 g4 g5 g6 ?_
      rcases hmode with ⟨h1, h2⟩ | ⟨h1, h2⟩
      · refine Or.inl ⟨?_, by rw [g7, h2]⟩
        rw [← h1, evs_c g8]
      · exact Or.inr ⟨h1, by rw [g7, h2]⟩
    have hop : mi 0 81 (b + 2 * k) = mi 0 81 (b + 2 * k) := rfl
    refine s_iload (dc kc_X12_reckon_0 4 rfl) rfl <| s_iload_n (dc kc_X12_reckon_0 5 rfl) rfl <| s_icmp_ge (tgt := 170) (dc kc_X12_reckon_0 6 rfl) rfl (fun c9 => (?_)) (fun c9 => (r_aload_n (dc kc_X12_reckon_0 7 rfl) rfl <| s_getA (dc kc_X12_reckon_0 8 rfl) fl_X12_7 (ly_80_2 hL) <| s_iload_n (dc kc_X12_reckon_0 9 rfl) rfl <| k_i (dc kc_X12_reckon_0 10 rfl) rfl <| s_iload (dc kc_X12_reckon_0 11 rfl) rfl <| b_imul (dc kc_X12_reckon_0 12 rfl) (by first | omega | (simp [up] <;> omega)) (by first | omega | (simp [up] <;> omega)) <| b_iadd (dc kc_X12_reckon_0 13 rfl) (by first | omega | (simp [up] <;> omega)) (by first | omega | (simp [up] <;> omega)) <| s_iaload (dc kc_X12_reckon_0 14 rfl) rfl (by first | omega | (simp [up] <;> omega)) (by first | omega | (simp [up] <;> omega)) <| t_i6 (dc kc_X12_reckon_0 15 rfl) (Nat.le_of_ble_eq_true rfl) rfl <| r_aload_n (dc kc_X12_reckon_0 16 rfl) rfl <| s_getA (dc kc_X12_reckon_0 17 rfl) fl_X12_7 (ly_80_2 hL) <| s_iload_n (dc kc_X12_reckon_0 18 rfl) rfl <| k_i (dc kc_X12_reckon_0 19 rfl) rfl <| s_iload (dc kc_X12_reckon_0 20 rfl) rfl <| b_imul (dc kc_X12_reckon_0 21 rfl) (by first | omega | (simp [up] <;> omega)) (by first | omega | (simp [up] <;> omega)) <| b_iadd (dc kc_X12_reckon_0 22 rfl) (by first | omega | (simp [up] <;> omega)) (by first | omega | (simp [up] <;> omega)) <| k_i (dc kc_X12_reckon_0 23 rfl) rfl <| b_iadd (dc kc_X12_reckon_0 24 rfl) (by first | omega | (simp [up] <;> omega)) (by first | omega | (simp [up] <;> omega)) <| s_iaload (dc kc_X12_reckon_0 25 rfl) rfl (by first | omega | (simp [up] <;> omega)) (by first | omega | (simp [up] <;> omega)) <| t_i7 (dc kc_X12_reckon_0 26 rfl) (Nat.le_of_ble_eq_true rfl) rfl <| s_iload (dc kc_X12_reckon_0 27 rfl) rfl <| k_i (dc kc_X12_reckon_0 28 rfl) rfl <| s_icmp_gt (tgt := 67) (dc kc_X12_reckon_0 29 rfl) rfl (fun c43 => (s_iload (dc kc_X12_reckon_1 0 rfl) rfl <| k_b (dc kc_X12_reckon_1 1 rfl) rfl <| s_icmp_gt (tgt := 101) (dc kc_X12_reckon_1 2 rfl) rfl (fun c71 => (s_iload (dc kc_X12_reckon_1 19 rfl) rfl <| k_b (dc kc_X12_reckon_1 20 rfl) rfl <| s_icmp_ne (tgt := 131) (dc kc_X12_reckon_1 21 rfl) rfl (fun c105 => (?_)) (fun c105 => (?_)))) (fun c71 => (?_)))) (fun c43 => (?_))))
    · exfalso; omega
    · -- join
      rcases tok_cs hty1 with e | e | e | e | e | e | e | e | e | e | e | e | e | e | e | e | e
      iterate 9 (exfalso; omega)
      rotate_left 5
      · exfalso; omega
      all_goals (obtain ⟨r2, e1, e2⟩ : ∃ r2, ts = _ :: _ :: r2 ∧ t1 = _ :: r2 := tyD_of (by rw [e] at hty1; exact hty1))
      all_goals (subst e1; obtain ⟨v, vs, e3, hv, hvs⟩ := hT.cons; subst e3; obtain ⟨u, us, e4, hu, hus⟩ := hvs.cons; subst e4)
      all_goals (have hnn := sab_nn r2 us)
      all_goals (have hsab0 := hsab)
      all_goals (simp only [List.length_cons, List.reverse_cons, List.append_assoc, List.length_append, List.length_nil, List.cons_append, List.nil_append, sab] at hlen hA hsab ⊢)
      all_goals (have eu : mi 0 92 (us.length : Int) = u := by have := (Arr.pre (L := us.reverse ++ [u]) (M := [v]) (by simpa using hA)).top; rwa [List.length_reverse] at this)
      all_goals (have ev : mi 0 92 ((us.length : Int) + 1) = v := by have := Arr.top (L := us.reverse ++ [u]) (v := v) (by simpa using hA); simpa using this)
      all_goals (try simp only [if_true, ↓reduceIte] at hsab)
      all_goals (have bu : -100000 ≤ u ∧ u ≤ 100000 := by first | (have := hu.2 rfl; omega) | omega)
      all_goals (have bv : -100000 ≤ v ∧ v ≤ 100000 := by first | (have := hv.2 rfl; omega) | omega)
      all_goals (have hev : ev1 (cel mi) (tokOf (mi 0 81 (b + 2 * k)) (mi 0 81 (b + 2 * k + 1))).1 (tokOf (mi 0 81 (b + 2 * k)) (mi 0 81 (b + 2 * k + 1))).2 (v :: u :: us) rd = some (jn (tokOf (mi 0 81 (b + 2 * k)) 0).1 u v :: us, rd) := by rw [e]; rfl)
      all_goals (have hfit := ev1_ty' (by rw [hcel]; exact hc) hty1 hT hev)
      all_goals (have hA2 : Arr (mi 0 92) us.reverse := Arr.pre (M := [u, v]) (by simpa using hA))
      all_goals (have key : ∀ w, w = jn (tokOf (mi 0 81 (b + 2 * k)) 0).1 u v → Run (d+5) mt_X12_reckon Q (n, mr, 0, 0) (up mi 0 92 (us.length : Int) w) 6 [vR (some (0, 80)), vI b, vI f, vI l, vI ((us.length : Int) + 1), vI (k + 1), vI (mi 0 81 (b + 2 * k)), vI (mi 0 81 (b + 2 * k + 1))] [] := by intro w ew; subst ew; exact goon _ rd _ (by simp only [List.length_cons]; omega) hfit.1 (by omega) (by rw [up_ud, List.reverse_cons]; exact hA2.snoc' (by rw [List.length_reverse])) (hCh.up rfl) (by rw [up_j (by decide)]; exact hB) (by rw [up_j (by decide)]) hev)
      all_goals (refine b_inc4 (dc kc_X12_reckon_1 37 rfl) rfl (Nat.le_of_ble_eq_true rfl) rfl (by first | omega | (simp [up] <;> omega)) (by first | omega | (simp [up] <;> omega)) <| r_aload_n (dc kc_X12_reckon_1 38 rfl) rfl <| s_getA (dc kc_X12_reckon_1 39 rfl) fl_X12_48 (ly_80_29 hL) <| s_iload (dc kc_X12_reckon_2 0 rfl) rfl <| k_i (dc kc_X12_reckon_2 1 rfl) rfl <| b_isub (dc kc_X12_reckon_2 2 rfl) (by first | omega | (simp [up] <;> omega)) (by first | omega | (simp [up] <;> omega)) <| s_iload (dc kc_X12_reckon_2 3 rfl) rfl <| r_aload_n (dc kc_X12_reckon_2 4 rfl) rfl <| s_getA (dc kc_X12_reckon_2 5 rfl) fl_X12_48 (ly_80_29 hL) <| s_iload (dc kc_X12_reckon_2 6 rfl) rfl <| k_i (dc kc_X12_reckon_2 7 rfl) rfl <| b_isub (dc kc_X12_reckon_2 8 rfl) (by first | omega | (simp [up] <;> omega)) (by first | omega | (simp [up] <;> omega)) <| s_iaload (dc kc_X12_reckon_2 9 rfl) rfl (by first | omega | (simp [up] <;> omega)) (by first | omega | (simp [up] <;> omega)) <| r_aload_n (dc kc_X12_reckon_2 10 rfl) rfl <| s_getA (dc kc_X12_reckon_2 11 rfl) fl_X12_48 (ly_80_29 hL) <| s_iload (dc kc_X12_reckon_2 12 rfl) rfl <| s_iaload (dc kc_X12_reckon_2 13 rfl) rfl (by first | omega | (simp [up] <;> omega)) (by first | omega | (simp [up] <;> omega)) <| c_s3r (dc kc_X12_reckon_2 14 rfl) cl_X12_345 rfl (Nat.le_of_ble_eq_true rfl) (Nat.zero_le _) (Nat.zero_le _) ?_)
      all_goals (rw [show ((us.length + 1 + 1 : Nat) : Int) + -1 - 1 = us.length by omega, show ((us.length + 1 + 1 : Nat) : Int) + -1 = (us.length : Int) + 1 by omega, eu, ev])
      all_goals (refine t_joined (by omega) (by omega) (by omega) ?_)
      all_goals (refine s_iastore (dc kc_X12_reckon_2 15 rfl) rfl (by first | omega | (simp [up] <;> omega)) (by first | omega | (simp [up] <;> omega)) <| b_inc5 (dc kc_X12_reckon_2 16 rfl) rfl (Nat.le_of_ble_eq_true rfl) rfl (by first | omega | (simp [up] <;> omega)) (by first | omega | (simp [up] <;> omega)) <| s_goto (tgt := 6) (dc kc_X12_reckon_2 17 rfl) rfl <| ?_)
      all_goals exact key _ rfl
    · -- not
      obtain ⟨r2, e1, e2⟩ : ∃ r2, ts = 2 :: r2 ∧ t1 = 2 :: r2 := tyU_of (by rw [c105] at hty1; exact hty1)
      subst e1; obtain ⟨v, vs, e3, hv, hvs⟩ := hT.cons; subst e3
      have hv2 := hv.2 rfl
      have hev : ev1 (cel mi) (tokOf (mi 0 81 (b + 2 * k)) (mi 0 81 (b + 2 * k + 1))).1 (tokOf (mi 0 81 (b + 2 * k)) (mi 0 81 (b + 2 * k + 1))).2 (v :: vs) rd = some ((1 - v) :: vs, rd) := by rw [c105]; rfl
      have hfit := ev1_ty' (by rw [hcel]; exact hc) hty1 hT hev
      rw [List.reverse_cons] at hA
      simp only [List.length_cons] at hlen ⊢
      have ex : mi 0 92 (((vs.length + 1 : Nat) : Int) - 1) = v := by
        have := hA.top
        rw [List.length_reverse] at this
        rw [show (((vs.length + 1 : Nat) : Int) - 1) = vs.length by omega]
        exact this
      refine r_aload_n (dc kc_X12_reckon_1 22 rfl) rfl <| s_getA (dc kc_X12_reckon_1 23 rfl) fl_X12_48 (ly_80_29 hL) <| s_iload (dc kc_X12_reckon_1 24 rfl) rfl <| k_i (dc kc_X12_reckon_1 25 rfl) rfl <| b_isub (dc kc_X12_reckon_1 26 rfl) (by first | omega | (simp [up] <;> omega)) (by first | omega | (simp [up] <;> omega)) <| k_i (dc kc_X12_reckon_1 27 rfl) rfl <| r_aload_n (dc kc_X12_reckon_1 28 rfl) rfl <| s_getA (dc kc_X12_reckon_1 29 rfl) fl_X12_48 (ly_80_29 hL) <| s_iload (dc kc_X12_reckon_1 30 rfl) rfl <| k_i (dc kc_X12_reckon_1 31 rfl) rfl <| b_isub (dc kc_X12_reckon_1 32 rfl) (by first | omega | (simp [up] <;> omega)) (by first | omega | (simp [up] <;> omega)) <| s_iaload (dc kc_X12_reckon_1 33 rfl) rfl (by first | omega | (simp [up] <;> omega)) (by first | omega | (simp [up] <;> omega)) <| b_isub (dc kc_X12_reckon_1 34 rfl) (by first | omega | (simp [up] <;> omega)) (by first | omega | (simp [up] <;> omega)) <| s_iastore (dc kc_X12_reckon_1 35 rfl) rfl (by first | omega | (simp [up] <;> omega)) (by first | omega | (simp [up] <;> omega)) <| s_goto (tgt := 164) (dc kc_X12_reckon_1 36 rfl) rfl <| b_inc5 (dc kc_X12_reckon_2 16 rfl) rfl (Nat.le_of_ble_eq_true rfl) rfl (by first | omega | (simp [up] <;> omega)) (by first | omega | (simp [up] <;> omega)) <| s_goto (tgt := 6) (dc kc_X12_reckon_2 17 rfl) rfl <| ?_
      rw [ex, show (((vs.length + 1 : Nat) : Int) - 1) = vs.length by omega]
      exact goon ((1 - v) :: vs) rd _ (by simp only [List.length_cons]; omega) hfit.1 (by omega) (by rw [up_ud, List.reverse_cons]; exact hA.pre.snoc' (by rw [List.length_reverse])) (hCh.up rfl) (by rw [up_j (by decide)]; exact hB) (by rw [up_j (by decide)]) hev
    · -- next, back, key
      have hop6 : mi 0 81 (b + 2 * k) = 6 ∨ mi 0 81 (b + 2 * k) = 7 ∨ mi 0 81 (b + 2 * k) = 8 := by
        rcases tok_cs hty1 with e | e | e | e | e | e | e | e | e | e | e | e | e | e | e | e | e <;> omega
      obtain ⟨r2, y, e1, e2⟩ : ∃ r2 y, ts = 0 :: r2 ∧ t1 = y :: r2 := by
        rcases hop6 with e | e | e
        · rw [e] at hty1; obtain ⟨r2, q1, q2⟩ := tyU_of (x := 0) (y := 0) hty1; exact ⟨r2, 0, q1, q2⟩
        · rw [e] at hty1; obtain ⟨r2, q1, q2⟩ := tyU_of (x := 0) (y := 0) hty1; exact ⟨r2, 0, q1, q2⟩
        · rw [e] at hty1; obtain ⟨r2, q1, q2⟩ := tyU_of (x := 0) (y := 1) hty1; exact ⟨r2, 1, q1, q2⟩
      subst e1; obtain ⟨v, vs, e3, hv, hvs⟩ := hT.cons; subst e3
      have hv2 := hv.1 rfl
      rw [List.reverse_cons] at hA
      simp only [List.length_cons] at hlen ⊢
      have ex : mi 0 92 (((vs.length + 1 : Nat) : Int) - 1) = v := by
        have := hA.top
        rw [List.length_reverse] at this
        rw [show (((vs.length + 1 : Nat) : Int) - 1) = vs.length by omega]
        exact this
      refine r_aload_n (dc kc_X12_reckon_1 3 rfl) rfl <| s_getA (dc kc_X12_reckon_1 4 rfl) fl_X12_48 (ly_80_29 hL) <| s_iload (dc kc_X12_reckon_1 5 rfl) rfl <| k_i (dc kc_X12_reckon_1 6 rfl) rfl <| b_isub (dc kc_X12_reckon_1 7 rfl) (by first | omega | (simp [up] <;> omega)) (by first | omega | (simp [up] <;> omega)) <| r_aload_n (dc kc_X12_reckon_1 8 rfl) rfl <| s_iload (dc kc_X12_reckon_1 9 rfl) rfl <| r_aload_n (dc kc_X12_reckon_1 10 rfl) rfl <| s_getA (dc kc_X12_reckon_1 11 rfl) fl_X12_48 (ly_80_29 hL) <| s_iload (dc kc_X12_reckon_1 12 rfl) rfl <| k_i (dc kc_X12_reckon_1 13 rfl) rfl <| b_isub (dc kc_X12_reckon_1 14 rfl) (by first | omega | (simp [up] <;> omega)) (by first | omega | (simp [up] <;> omega)) <| s_iaload (dc kc_X12_reckon_1 15 rfl) rfl (by first | omega | (simp [up] <;> omega)) (by first | omega | (simp [up] <;> omega)) <| c_v2r (dc kc_X12_reckon_1 16 rfl) cl_X12_342 rfl (Nat.le_of_ble_eq_true rfl) (Nat.zero_le _) (Nat.zero_le _) ?_
      rw [ex, show (((vs.length + 1 : Nat) : Int) - 1) = vs.length by omega]
      refine t_cellOf hL hop6 hv2.1 hv2.2 (fun hn => ?_) (fun hn => ?_)
      · refine s_iastore (dc kc_X12_reckon_1 17 rfl) rfl (by first | omega | (simp [up] <;> omega)) (by first | omega | (simp [up] <;> omega)) <| s_goto (tgt := 164) (dc kc_X12_reckon_1 18 rfl) rfl <| b_inc5 (dc kc_X12_reckon_2 16 rfl) rfl (Nat.le_of_ble_eq_true rfl) rfl (by first | omega | (simp [up] <;> omega)) (by first | omega | (simp [up] <;> omega)) <| s_goto (tgt := 6) (dc kc_X12_reckon_2 17 rfl) rfl <| ?_
        have hev : ev1 (cel mi0) (tokOf (mi0 0 81 (b + 2 * k)) (mi0 0 81 (b + 2 * k + 1))).1 (tokOf (mi0 0 81 (b + 2 * k)) (mi0 0 81 (b + 2 * k + 1))).2 (v :: vs) rd = none := by
          rw [← hrow, hn]
          rcases hop6 with e | e | e <;> rw [e] <;> rfl
        have hTn : T = none := by
          rcases hmode with ⟨h1, h2⟩ | ⟨h1, h2⟩
          · rw [← h1, evs_n hev]
          · exact h1
        have hfit : Tys t1 ((if mi 0 81 (b + 2 * k) = 8 then 0 else -1) :: vs) ∧ sab t1 ((if mi 0 81 (b + 2 * k) = 8 then 0 else -1) :: vs) ≤ sab (0 :: r2) (v :: vs) + 99 := by
          subst e2
          have hsb : sab (0 :: r2) (v :: vs) = sab r2 vs := by rw [sab, if_neg (by decide)]; omega
          rw [hsb]
          rcases hop6 with e | e | e
          · rw [e] at hty1 ⊢
            obtain ⟨_, q1, q2⟩ := tyU_of (x := 0) (y := 0) (ts := 0 :: r2) (ts' := y :: r2) hty1
            cases q1
            cases q2
            exact ⟨⟨tyV0 (by decide), hvs⟩, by rw [sab, if_neg (by decide)]; omega⟩
          · rw [e] at hty1 ⊢
            obtain ⟨_, q1, q2⟩ := tyU_of (x := 0) (y := 0) (ts := 0 :: r2) (ts' := y :: r2) hty1
            cases q1
            cases q2
            exact ⟨⟨tyV0 (by decide), hvs⟩, by rw [sab, if_neg (by decide)]; omega⟩
          · rw [e] at hty1 ⊢
            obtain ⟨_, q1, q2⟩ := tyU_of (x := 0) (y := 1) (ts := 0 :: r2) (ts' := y :: r2) hty1
            cases q1
            cases q2
            exact ⟨⟨tyV1, hvs⟩, by rw [sab, if_pos rfl, if_pos rfl]; omega⟩
        refine ih (k + 1) t1 (_ :: vs) rd _ _ _ (by omega) (by omega) hty2 hfit.1 (by omega) (by simp only [List.length_cons]; omega) ?_ ((hCh.up rfl).up rfl) (by rw [up_j (by decide), up_k (by decide)]; exact hB) (Or.inr ⟨hTn, by rw [up_j (by decide), up_at]⟩)
        rw [up_ud, List.reverse_cons, up_j (by decide)]
        exact hA.pre.snoc' (by rw [List.length_reverse])
      · refine s_iastore (dc kc_X12_reckon_1 17 rfl) rfl (by first | omega | (simp [up] <;> omega)) (by first | omega | (simp [up] <;> omega)) <| s_goto (tgt := 164) (dc kc_X12_reckon_1 18 rfl) rfl <| b_inc5 (dc kc_X12_reckon_2 16 rfl) rfl (Nat.le_of_ble_eq_true rfl) rfl (by first | omega | (simp [up] <;> omega)) (by first | omega | (simp [up] <;> omega)) <| s_goto (tgt := 6) (dc kc_X12_reckon_2 17 rfl) rfl <| ?_
        have hev : ev1 (cel mi) (tokOf (mi 0 81 (b + 2 * k)) (mi 0 81 (b + 2 * k + 1))).1 (tokOf (mi 0 81 (b + 2 * k)) (mi 0 81 (b + 2 * k + 1))).2 (v :: vs) rd = some (cel mi (oOf (mi 0 81 (b + 2 * k)) + 3 * v) :: vs, (oOf (mi 0 81 (b + 2 * k)) + 3 * v) :: rd) := by
          rcases hop6 with e | e | e <;> rw [e] <;> exact cel1_c hn
        have hfit := ev1_ty' (by rw [hcel]; exact hc) hty1 hT hev
        have ho : 6 ≤ oOf (mi 0 81 (b + 2 * k)) ∧ oOf (mi 0 81 (b + 2 * k)) ≤ 8 := by rcases hop6 with e | e | e <;> rw [e] <;> decide
        refine goon (_ :: vs) _ _ (by simp only [List.length_cons]; omega) hfit.1 (by omega) ?_ ((hCh.up rfl).up rfl) ?_ (by rw [up_j (by decide), up_k (by decide)]) hev
        · rw [up_ud, List.reverse_cons, up_j (by decide)]
          exact hA.pre.snoc' (by rw [List.length_reverse])
        · rw [up_j (by decide), up_at]
          exact hB.set (by omega) (by omega)
    · -- leaves
      refine r_aload_n (dc kc_X12_reckon_0 30 rfl) rfl <| s_getA (dc kc_X12_reckon_0 31 rfl) fl_X12_48 (ly_80_29 hL) <| s_iload (dc kc_X12_reckon_0 32 rfl) rfl <| r_aload_n (dc kc_X12_reckon_0 33 rfl) rfl <| s_iload (dc kc_X12_reckon_0 34 rfl) rfl <| s_iload (dc kc_X12_reckon_0 35 rfl) rfl <| c_v2r (dc kc_X12_reckon_0 36 rfl) cl_X12_338 rfl (Nat.le_of_ble_eq_true rfl) (Nat.zero_le _) (Nat.zero_le _) ?_
      refine t_leafOf hL (by rw [hcel]; exact hc) (by omega) hty1 hB (fun mi1 v r g1 g2 g3 => ?_)
      refine s_iastore (dc kc_X12_reckon_0 37 rfl) rfl (by first | omega | (simp [up] <;> omega)) (by first | omega | (simp [up] <;> omega)) <| b_inc4 (dc kc_X12_reckon_0 38 rfl) rfl (Nat.le_of_ble_eq_true rfl) rfl (by first | omega | (simp [up] <;> omega)) (by first | omega | (simp [up] <;> omega)) <| s_goto (tgt := 164) (dc kc_X12_reckon_0 39 rfl) rfl <| b_inc5 (dc kc_X12_reckon_2 16 rfl) rfl (Nat.le_of_ble_eq_true rfl) rfl (by first | omega | (simp [up] <;> omega)) (by first | omega | (simp [up] <;> omega)) <| s_goto (tgt := 6) (dc kc_X12_reckon_2 17 rfl) rfl <| ?_
      have hfit := ev1_ty' (by rw [hcel]; exact hc) hty1 hT (g2 st rd)
      have e92 : mi1 0 92 = mi 0 92 := g1.row (fun _ => rfl)
      refine goon (v :: st) (r ++ rd) _ (by simp only [List.length_cons]; omega) hfit.1 (by omega) ?_ ((hCh.tr (g1.mono pR_pE)).up rfl) (by rw [up_j (by decide)]; exact g3) (by rw [up_j (by decide)]; exact g1.at rfl) (g2 st rd)
      rw [up_ud, List.reverse_cons, e92]
      exact hA.snoc' (by rw [List.length_reverse])
theorem t_reckon (hL : Lay G mr) {mi : MI} {b f l : Int} {t : Nat} {L0 : List Int} (hb : b = 2286 ∨ b = 3086) (h0 : 0 ≤ f) (hf : f ≤ l) (hl : l ≤ 400) (hc : VC (cel mi)) (hty : tyc (slc (mi 0 81) b (l - f).toNat f) [] = some [t]) (hB : Bm (mi 0 80 9) L0) (hQ : ∀ mi' v, Ch pE mi mi' → ((evs (cel mi) (slc (mi 0 81) b (l - f).toNat f) [] L0 = none ∧ mi' 0 80 30 = 1) ∨ ∃ rd, evs (cel mi) (slc (mi 0 81) b (l - f).toNat f) [] L0 = some ([v], rd) ∧ Bm (mi' 0 80 9) rd ∧ mi' 0 80 30 = mi 0 80 30) → Q (vI v) mi' n mr) : Tx (d+5) mt_X12_reckon [vR (some (0, 80)), vI b, vI f, vI l] mi n mr Q := by
  refine tx_intro (ls := [vR (some (0, 80)), vI b, vI f, vI l, vX 0, vX 0, vX 0, vX 0]) om_X12_reckon rfl (Nat.le_of_ble_eq_true rfl) ?_
  refine k_i (dc kc_X12_reckon_0 0 rfl) rfl <| t_i4 (dc kc_X12_reckon_0 1 rfl) (Nat.le_of_ble_eq_true rfl) rfl <| s_iload_n (dc kc_X12_reckon_0 2 rfl) rfl <| t_i5 (dc kc_X12_reckon_0 3 rfl) (Nat.le_of_ble_eq_true rfl) rfl <| ?_
  exact reckon_loop hL hb hl hc hQ _ f [] [] L0 mi _ _ (by omega) h0 hty trivial (by show (0 : Int) ≤ _; omega) (by simp; omega) Arr.nil Ch.rf hB (Or.inl ⟨rfl, rfl⟩)
end REF5
