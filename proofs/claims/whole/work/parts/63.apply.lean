/-! the class: its reader applies a piece of code -/
section RD3
variable {d n G : Nat} {mr : MR} {Q : V → MI → Nat → MR → Prop}
theorem u_apply (hL : Lay G mr) {mi : MI} {r g : Nat} (hr : r < 5) (hcel : mr r 50 0 = some (g, 16)) (hc : VC (clG mi g)) {t a f l k : Int} {x : Nat} {ts ts' : List Nat} {st rd : List Int} (hty : ty1 t a ts = some ts') (hT : Tys ts st) (ht : mi r 50 2 = st.length) (h59 : st.length < 60) (hA : Arr (mi r 52) st.reverse) (hB : Bm (mi r 50 3) rd) (hsab : sab ts st ≤ 1000000) (hQ : ∀ mi' st' rd', Cg (pQ r) mi mi' → mi' r 50 2 = (st'.length : Int) → Arr (mi' r 52) st'.reverse → Bm (mi' r 50 3) rd' → Tys ts' st' → sab ts' st' ≤ sab ts st + 99 → st'.length ≤ st.length + 1 → ((ev1 (clG mi g) t a st rd = some (st', rd') ∧ mi' r 50 4 = mi r 50 4) ∨ (ev1 (clG mi g) t a st rd = none ∧ mi' r 50 4 = 1)) → Run (d+3) mt_X6_run Q (n, mr, 0, 0) mi' 845 [vR (some (r, 50)), vR (some (x, 20)), vI f, vI l, vR (some (x, 21)), vI k, vI a] []) : Run (d+3) mt_X6_run Q (n, mr, 0, 0) mi 46 [vR (some (r, 50)), vR (some (x, 20)), vI f, vI l, vR (some (x, 21)), vI k, vI a] [vI t] := by
  have hok : okI G 50 r := hr
  -- a value is pushed
  have fin : ∀ (m m1 : MI) (v : Int) (st0 rd' : List Int), Cg (pQ r) mi m → Bm (m r 50 3) rd' → m r 50 4 = mi r 50 4 → st0.length ≤ st.length → ev1 (clG mi g) t a st rd = some (v :: st0, rd') → Cg (fun g j k => g == r && (j == 52 || (j == 50 && k == 2))) m m1 → m1 r 50 2 = ((v :: st0).length : Int) → Arr (m1 r 52) (v :: st0).reverse → Run (d+3) mt_X6_run Q (n, mr, 0, 0) m1 845 [vR (some (r, 50)), vR (some (x, 20)), vI f, vI l, vR (some (x, 21)), vI k, vI a] [] := by
    intro m m1 v st0 rd' hC hB' h4 hl he g1 e1 a1
    have hfit := ev1_ty' hc hty hT he
    refine hQ m1 (v :: st0) rd' (hC.tr (g1.mono (fun _ _ _ z => by simp [pQ, pV, pRd] at z ⊢; omega))) e1 a1 (by rw [g1.at (by simp)]; exact hB') hfit.1 hfit.2 (by rw [List.length_cons]; omega) (Or.inl ⟨he, by rw [g1.at (by simp), h4]⟩)
  rcases ty1_cs hty with rfl | rfl | rfl | rfl | rfl | rfl | rfl | rfl | rfl | rfl | rfl | rfl | rfl | rfl | rfl | rfl | rfl | rfl | rfl | rfl | rfl | rfl | rfl
  · refine s_tabC (k0 := 22) (tgt := 440) (dc kc_X6_run_0 26 rfl) ?_ rfl rfl rfl <| r_aload_n (dc kc_X6_run_0 27 rfl) rfl <| s_iload (dc kc_X6_run_0 28 rfl) rfl <| c_v1 (dc kc_X6_run_0 29 rfl) cl_X6_63 rfl (Nat.le_of_ble_eq_true rfl) (Nat.zero_le _) (Nat.zero_le _) ?_
    · rfl
    · refine u_push hL hr ht h59 hA (fun m1 g1 e1 a1 => ?_)
      refine s_goto (tgt := 845) (dc kc_X6_run_0 30 rfl) rfl <| ?_
      exact fin mi m1 _ st rd Cg.rf hB rfl (Nat.le_refl _) ev1_22 g1 e1 a1
  · refine s_tabC (k0 := 13) (tgt := 449) (dc kc_X6_run_0 26 rfl) ?_ rfl rfl rfl <| r_aload_n (dc kc_X6_run_0 31 rfl) rfl <| s_iload (dc kc_X6_run_0 32 rfl) rfl <| c_v1 (dc kc_X6_run_0 33 rfl) cl_X6_63 rfl (Nat.le_of_ble_eq_true rfl) (Nat.zero_le _) (Nat.zero_le _) ?_
    · rfl
    · refine u_push hL hr ht h59 hA (fun m1 g1 e1 a1 => ?_)
      refine s_goto (tgt := 845) (dc kc_X6_run_0 34 rfl) rfl <| ?_
      exact fin mi m1 _ st rd Cg.rf hB rfl (Nat.le_refl _) ev1_13 g1 e1 a1
  · refine s_tabC (k0 := 14) (tgt := 458) (dc kc_X6_run_0 26 rfl) ?_ rfl rfl rfl <| r_aload_n (dc kc_X6_run_0 35 rfl) rfl <| k_i (dc kc_X6_run_0 36 rfl) rfl <| c_v1 (dc kc_X6_run_0 37 rfl) cl_X6_63 rfl (Nat.le_of_ble_eq_true rfl) (Nat.zero_le _) (Nat.zero_le _) ?_
    · rfl
    · refine u_push hL hr ht h59 hA (fun m1 g1 e1 a1 => ?_)
      refine s_goto (tgt := 845) (dc kc_X6_run_0 38 rfl) rfl <| ?_
      exact fin mi m1 _ st rd Cg.rf hB rfl (Nat.le_refl _) ev1_14 g1 e1 a1
  · obtain ⟨h1, -⟩ := tyL_of hty
    refine s_tabC (k0 := 8) (tgt := 466) (dc kc_X6_run_0 26 rfl) ?_ rfl rfl rfl <| r_aload_n (dc kc_X6_run_0 39 rfl) rfl <| r_aload_n (dc kc_X6_run_1 0 rfl) rfl <| s_iload (dc kc_X6_run_1 1 rfl) rfl <| c_v1r (dc kc_X6_run_1 2 rfl) cl_X6_66 rfl (Nat.le_of_ble_eq_true rfl) (Nat.zero_le _) (Nat.zero_le _) ?_
    · rfl
    · refine u_look hL hcel (by omega) (by omega) ?_
      refine c_v1 (dc kc_X6_run_1 3 rfl) cl_X6_63 rfl (Nat.le_of_ble_eq_true rfl) (Nat.zero_le _) (Nat.zero_le _) ?_
      refine u_push hL hr (st := st) (by rw [up_k (by decide), ht]) h59 (by rw [up_j (by decide)]; exact hA) (fun m1 g1 e1 a1 => ?_)
      refine s_goto (tgt := 845) (dc kc_X6_run_1 4 rfl) rfl <| ?_
      exact fin _ m1 _ st _ (Cg.rf.up (by simp [pQ])) (by rw [up_at]; exact hB.set (by omega) (by omega)) (by rw [up_k (by decide)]) (Nat.le_refl _) ev1_8 g1 e1 a1
  · obtain ⟨h1, -⟩ := tyL_of hty
    refine s_tabC (k0 := 9) (tgt := 479) (dc kc_X6_run_0 26 rfl) ?_ rfl rfl rfl <| r_aload_n (dc kc_X6_run_1 5 rfl) rfl <| r_aload_n (dc kc_X6_run_1 6 rfl) rfl <| k_i (dc kc_X6_run_1 7 rfl) rfl <| s_iload (dc kc_X6_run_1 8 rfl) rfl <| b_iadd (dc kc_X6_run_1 9 rfl) (by first | omega | (simp [up] <;> omega)) (by first | omega | (simp [up] <;> omega)) <| c_v1r (dc kc_X6_run_1 10 rfl) cl_X6_66 rfl (Nat.le_of_ble_eq_true rfl) (Nat.zero_le _) (Nat.zero_le _) ?_
    · rfl
    · refine u_look hL hcel (by omega) (by omega) ?_
      refine c_v1 (dc kc_X6_run_1 11 rfl) cl_X6_63 rfl (Nat.le_of_ble_eq_true rfl) (Nat.zero_le _) (Nat.zero_le _) ?_
      refine u_push hL hr (st := st) (by rw [up_k (by decide), ht]) h59 (by rw [up_j (by decide)]; exact hA) (fun m1 g1 e1 a1 => ?_)
      refine s_goto (tgt := 845) (dc kc_X6_run_1 12 rfl) rfl <| ?_
      exact fin _ m1 _ st _ (Cg.rf.up (by simp [pQ])) (by rw [up_at]; exact hB.set (by omega) (by omega)) (by rw [up_k (by decide)]) (Nat.le_refl _) ev1_9 g1 e1 a1
  · obtain ⟨r2, e2, e3⟩ := tyU_of (x := 0) (y := 0) hty
    subst e2
    subst e3
    obtain ⟨v, vs, e4, hv, hvs⟩ := hT.cons
    subst e4
    have hv := hv.1 rfl
    rw [List.length_cons] at h59
    refine s_tabC (k0 := 10) (tgt := 494) (dc kc_X6_run_0 26 rfl) ?_ rfl rfl rfl <| r_aload_n (dc kc_X6_run_1 13 rfl) rfl <| r_aload_n (dc kc_X6_run_1 14 rfl) rfl <| r_aload_n (dc kc_X6_run_1 15 rfl) rfl <| c_v0r (dc kc_X6_run_1 16 rfl) cl_X6_70 rfl (Nat.le_of_ble_eq_true rfl) (Nat.zero_le _) (Nat.zero_le _) ?_
    · rfl
    · refine u_pop hL hr ht (by omega) hA (fun m1 g1 e1 a1 => ?_)
      have k3 : m1 r 50 3 = mi r 50 3 := g1.at (by simp)
      have k4 : m1 r 50 4 = mi r 50 4 := g1.at (by simp)
      have k16 : ∀ x, m1 g 16 x = mi g 16 x := fun x => g1.at (by simp)
      refine k_b (dc kc_X6_run_1 17 rfl) rfl <| c_v2r (dc kc_X6_run_1 18 rfl) cl_X6_74 rfl (Nat.le_of_ble_eq_true rfl) (Nat.zero_le _) (Nat.zero_le _) ?_
      refine u_lookAt hL hcel (by decide) (fun hn => ?_) (fun h0 h6 => ?_)
      · refine c_v1 (dc kc_X6_run_1 19 rfl) cl_X6_63 rfl (Nat.le_of_ble_eq_true rfl) (Nat.zero_le _) (Nat.zero_le _) ?_
        refine u_push hL hr (st := vs) (by rw [up_k (by decide), e1]) (by omega) (by rw [up_j (by decide)]; exact a1) (fun m2 g2 e2 a2 => ?_)
        refine s_goto (tgt := 845) (dc kc_X6_run_1 20 rfl) rfl <| ?_
        refine hQ m2 (-1 :: vs) rd (((g1.mono (fun _ _ _ z => by simp [pQ, pV, pRd] at z ⊢; omega)).up (by simp [pQ])).tr (g2.mono (fun _ _ _ z => by simp [pQ, pV, pRd] at z ⊢; omega))) e2 a2 (by rw [g2.at (by simp), up_k (by decide), k3]; exact hB) ⟨tyV0 (by decide), hvs⟩ ?_ (by simp only [List.length_cons]; omega) (Or.inr ⟨?_, by rw [g2.at (by simp), up_at]⟩)
        · rw [sab, sab, if_neg (by decide), if_neg (by decide)]; omega
        · rw [show v = -1 by omega]; rfl
      · rw [k16]
        refine c_v1 (dc kc_X6_run_1 19 rfl) cl_X6_63 rfl (Nat.le_of_ble_eq_true rfl) (Nat.zero_le _) (Nat.zero_le _) ?_
        refine u_push hL hr (st := vs) (by rw [up_k (by decide), e1]) (by omega) (by rw [up_j (by decide)]; exact a1) (fun m2 g2 e2 a2 => ?_)
        refine s_goto (tgt := 845) (dc kc_X6_run_1 20 rfl) rfl <| ?_
        exact fin _ m2 _ vs _ ((g1.mono (fun _ _ _ z => by simp [pQ, pV, pRd] at z ⊢; omega)).up (by simp [pQ])) (by rw [up_at, k3]; exact hB.set (by omega) (by omega)) (by rw [up_k (by decide), k4]) (by rw [List.length_cons]; omega) (cel1_c (by omega)) g2 e2 a2
  · obtain ⟨r2, e2, e3⟩ := tyU_of (x := 0) (y := 0) hty
    subst e2
    subst e3
    obtain ⟨v, vs, e4, hv, hvs⟩ := hT.cons
    subst e4
    have hv := hv.1 rfl
    rw [List.length_cons] at h59
    refine s_tabC (k0 := 11) (tgt := 511) (dc kc_X6_run_0 26 rfl) ?_ rfl rfl rfl <| r_aload_n (dc kc_X6_run_1 21 rfl) rfl <| r_aload_n (dc kc_X6_run_1 22 rfl) rfl <| r_aload_n (dc kc_X6_run_1 23 rfl) rfl <| c_v0r (dc kc_X6_run_1 24 rfl) cl_X6_70 rfl (Nat.le_of_ble_eq_true rfl) (Nat.zero_le _) (Nat.zero_le _) ?_
    · rfl
    · refine u_pop hL hr ht (by omega) hA (fun m1 g1 e1 a1 => ?_)
      have k3 : m1 r 50 3 = mi r 50 3 := g1.at (by simp)
      have k4 : m1 r 50 4 = mi r 50 4 := g1.at (by simp)
      have k16 : ∀ x, m1 g 16 x = mi g 16 x := fun x => g1.at (by simp)
      refine k_b (dc kc_X6_run_1 25 rfl) rfl <| c_v2r (dc kc_X6_run_1 26 rfl) cl_X6_74 rfl (Nat.le_of_ble_eq_true rfl) (Nat.zero_le _) (Nat.zero_le _) ?_
      refine u_lookAt hL hcel (by decide) (fun hn => ?_) (fun h0 h6 => ?_)
      · refine c_v1 (dc kc_X6_run_1 27 rfl) cl_X6_63 rfl (Nat.le_of_ble_eq_true rfl) (Nat.zero_le _) (Nat.zero_le _) ?_
        refine u_push hL hr (st := vs) (by rw [up_k (by decide), e1]) (by omega) (by rw [up_j (by decide)]; exact a1) (fun m2 g2 e2 a2 => ?_)
        refine s_goto (tgt := 845) (dc kc_X6_run_1 28 rfl) rfl <| ?_
        refine hQ m2 (-1 :: vs) rd (((g1.mono (fun _ _ _ z => by simp [pQ, pV, pRd] at z ⊢; omega)).up (by simp [pQ])).tr (g2.mono (fun _ _ _ z => by simp [pQ, pV, pRd] at z ⊢; omega))) e2 a2 (by rw [g2.at (by simp), up_k (by decide), k3]; exact hB) ⟨tyV0 (by decide), hvs⟩ ?_ (by simp only [List.length_cons]; omega) (Or.inr ⟨?_, by rw [g2.at (by simp), up_at]⟩)
        · rw [sab, sab, if_neg (by decide), if_neg (by decide)]; omega
        · rw [show v = -1 by omega]; rfl
      · rw [k16]
        refine c_v1 (dc kc_X6_run_1 27 rfl) cl_X6_63 rfl (Nat.le_of_ble_eq_true rfl) (Nat.zero_le _) (Nat.zero_le _) ?_
        refine u_push hL hr (st := vs) (by rw [up_k (by decide), e1]) (by omega) (by rw [up_j (by decide)]; exact a1) (fun m2 g2 e2 a2 => ?_)
        refine s_goto (tgt := 845) (dc kc_X6_run_1 28 rfl) rfl <| ?_
        exact fin _ m2 _ vs _ ((g1.mono (fun _ _ _ z => by simp [pQ, pV, pRd] at z ⊢; omega)).up (by simp [pQ])) (by rw [up_at, k3]; exact hB.set (by omega) (by omega)) (by rw [up_k (by decide), k4]) (by rw [List.length_cons]; omega) (cel1_c (by omega)) g2 e2 a2
  · obtain ⟨r2, e2, e3⟩ := tyU_of (x := 0) (y := 1) hty
    subst e2
    subst e3
    obtain ⟨v, vs, e4, hv, hvs⟩ := hT.cons
    subst e4
    have hv := hv.1 rfl
    rw [List.length_cons] at h59
    refine s_tabC (k0 := 12) (tgt := 528) (dc kc_X6_run_0 26 rfl) ?_ rfl rfl rfl <| r_aload_n (dc kc_X6_run_1 29 rfl) rfl <| r_aload_n (dc kc_X6_run_1 30 rfl) rfl <| r_aload_n (dc kc_X6_run_1 31 rfl) rfl <| c_v0r (dc kc_X6_run_1 32 rfl) cl_X6_70 rfl (Nat.le_of_ble_eq_true rfl) (Nat.zero_le _) (Nat.zero_le _) ?_
    · rfl
    · refine u_pop hL hr ht (by omega) hA (fun m1 g1 e1 a1 => ?_)
      have k3 : m1 r 50 3 = mi r 50 3 := g1.at (by simp)
      have k4 : m1 r 50 4 = mi r 50 4 := g1.at (by simp)
      have k16 : ∀ x, m1 g 16 x = mi g 16 x := fun x => g1.at (by simp)
      refine k_b (dc kc_X6_run_1 33 rfl) rfl <| c_v2r (dc kc_X6_run_1 34 rfl) cl_X6_74 rfl (Nat.le_of_ble_eq_true rfl) (Nat.zero_le _) (Nat.zero_le _) ?_
      refine u_lookAt hL hcel (by decide) (fun hn => ?_) (fun h0 h6 => ?_)
      · refine c_v1 (dc kc_X6_run_1 35 rfl) cl_X6_63 rfl (Nat.le_of_ble_eq_true rfl) (Nat.zero_le _) (Nat.zero_le _) ?_
        refine u_push hL hr (st := vs) (by rw [up_k (by decide), e1]) (by omega) (by rw [up_j (by decide)]; exact a1) (fun m2 g2 e2 a2 => ?_)
        refine s_goto (tgt := 845) (dc kc_X6_run_1 36 rfl) rfl <| ?_
        refine hQ m2 (-1 :: vs) rd (((g1.mono (fun _ _ _ z => by simp [pQ, pV, pRd] at z ⊢; omega)).up (by simp [pQ])).tr (g2.mono (fun _ _ _ z => by simp [pQ, pV, pRd] at z ⊢; omega))) e2 a2 (by rw [g2.at (by simp), up_k (by decide), k3]; exact hB) ⟨tyV1, hvs⟩ ?_ (by simp only [List.length_cons]; omega) (Or.inr ⟨?_, by rw [g2.at (by simp), up_at]⟩)
        · rw [sab, sab, if_pos rfl, if_neg (by decide)]; omega
        · rw [show v = -1 by omega]; rfl
      · rw [k16]
        refine c_v1 (dc kc_X6_run_1 35 rfl) cl_X6_63 rfl (Nat.le_of_ble_eq_true rfl) (Nat.zero_le _) (Nat.zero_le _) ?_
        refine u_push hL hr (st := vs) (by rw [up_k (by decide), e1]) (by omega) (by rw [up_j (by decide)]; exact a1) (fun m2 g2 e2 a2 => ?_)
        refine s_goto (tgt := 845) (dc kc_X6_run_1 36 rfl) rfl <| ?_
        exact fin _ m2 _ vs _ ((g1.mono (fun _ _ _ z => by simp [pQ, pV, pRd] at z ⊢; omega)).up (by simp [pQ])) (by rw [up_at, k3]; exact hB.set (by omega) (by omega)) (by rw [up_k (by decide), k4]) (by rw [List.length_cons]; omega) (cel1_c (by omega)) g2 e2 a2
  · obtain ⟨h1, -⟩ := tyL_of hty
    refine s_tabC (k0 := 19) (tgt := 545) (dc kc_X6_run_0 26 rfl) ?_ rfl rfl rfl <| r_aload_n (dc kc_X6_run_1 37 rfl) rfl <| s_iload (dc kc_X6_run_1 38 rfl) rfl <| c_v1 (dc kc_X6_run_1 39 rfl) cl_X6_56 rfl (Nat.le_of_ble_eq_true rfl) (Nat.zero_le _) (Nat.zero_le _) ?_
    · rfl
    · refine u_follow hL hr hcel hc h1.1 (by omega) hB (fun m1 g1 e6 e7 e8 hAw hBw => ?_)
      have k2 : m1 r 50 2 = st.length := by rw [g1.at (by simp [pV]), ht]
      have k4 : m1 r 50 4 = mi r 50 4 := g1.at (by simp [pV])
      have k52 : m1 r 52 = mi r 52 := g1.row (fun k => by simp [pV])
      have gc : Cg (pQ r) mi m1 := g1.mono (fun _ _ _ z => by simp [pQ, pV, pRd] at z ⊢; omega)
      have ecl : clG m1 g = clG mi g := by unfold clG; rw [g1.row (fun k => by simp [pV])]
      have hwr := way_rg hc h1.1 (by omega : a < 3)
      have hwl := way_len (clG mi g) a
      refine r_aload_n (dc kc_X6_run_2 0 rfl) rfl <| r_aload_n (dc kc_X6_run_2 1 rfl) rfl <| s_getI (dc kc_X6_run_2 2 rfl) fl_X6_32 <| c_v1 (dc kc_X6_run_2 3 rfl) cl_X6_63 rfl (Nat.le_of_ble_eq_true rfl) (Nat.zero_le _) (Nat.zero_le _) ?_
      refine u_push hL hr (st := st) k2 h59 (by rw [k52]; exact hA) (fun m2 g2 e2 a2 => ?_)
      rw [e6] at e2 a2
      refine s_goto (tgt := 845) (dc kc_X6_run_2 4 rfl) rfl <| ?_
      exact fin m1 m2 _ st _ gc hBw k4 (Nat.le_refl _) ev1_19 g2 e2 a2
  · obtain ⟨h1, -⟩ := tyL_of hty
    refine s_tabC (k0 := 20) (tgt := 562) (dc kc_X6_run_0 26 rfl) ?_ rfl rfl rfl <| r_aload_n (dc kc_X6_run_2 5 rfl) rfl <| s_iload (dc kc_X6_run_2 6 rfl) rfl <| c_v1 (dc kc_X6_run_2 7 rfl) cl_X6_56 rfl (Nat.le_of_ble_eq_true rfl) (Nat.zero_le _) (Nat.zero_le _) ?_
    · rfl
    · refine u_follow hL hr hcel hc h1.1 (by omega) hB (fun m1 g1 e6 e7 e8 hAw hBw => ?_)
      have k2 : m1 r 50 2 = st.length := by rw [g1.at (by simp [pV]), ht]
      have k4 : m1 r 50 4 = mi r 50 4 := g1.at (by simp [pV])
      have k52 : m1 r 52 = mi r 52 := g1.row (fun k => by simp [pV])
      have gc : Cg (pQ r) mi m1 := g1.mono (fun _ _ _ z => by simp [pQ, pV, pRd] at z ⊢; omega)
      have ecl : clG m1 g = clG mi g := by unfold clG; rw [g1.row (fun k => by simp [pV])]
      have hwr := way_rg hc h1.1 (by omega : a < 3)
      have hwl := way_len (clG mi g) a
      refine r_aload_n (dc kc_X6_run_2 8 rfl) rfl <| r_aload_n (dc kc_X6_run_2 9 rfl) rfl <| c_v0r (dc kc_X6_run_2 10 rfl) cl_X6_78 rfl (Nat.le_of_ble_eq_true rfl) (Nat.zero_le _) (Nat.zero_le _) ?_
      refine u_totalOfWay hL hr hcel (by rw [ecl]; exact hc) hwr hwl e6 e7 hAw hBw (fun m2 g2 hB2 => ?_)
      rw [ecl]
      refine c_v1 (dc kc_X6_run_2 11 rfl) cl_X6_63 rfl (Nat.le_of_ble_eq_true rfl) (Nat.zero_le _) (Nat.zero_le _) ?_
      refine u_push hL hr (st := st) (by rw [g2.at (by simp [pRd]), k2]) h59 (by rw [g2.row (fun k => by simp [pRd]), k52]; exact hA) (fun m3 g3 e3 a3 => ?_)
      refine s_goto (tgt := 845) (dc kc_X6_run_2 12 rfl) rfl <| ?_
      refine fin m2 m3 _ st _ (gc.tr (g2.mono (fun _ _ _ z => by simp [pQ, pV, pRd] at z ⊢; omega))) (hB2.mem (fun x x0 x1 => ?_)) (by rw [g2.at (by simp [pRd]), k4]) (Nat.le_refl _) ev1_20 g3 e3 a3
      unfold askW askN
      simp
      constructor
      · rintro (⟨y, p, q⟩ | h | ⟨y, p, q⟩ | h)
        · exact Or.inr (Or.inl ⟨y, p, Or.inr q.symm⟩)
        · exact Or.inl h
        · exact Or.inr (Or.inl ⟨y, p, Or.inl q⟩)
        · exact Or.inr (Or.inr h)
      · rintro (h | ⟨y, p, q | q⟩ | h)
        · exact Or.inr (Or.inl h)
        · exact Or.inr (Or.inr (Or.inl ⟨y, p, q⟩))
        · exact Or.inl ⟨y, p, q.symm⟩
        · exact Or.inr (Or.inr (Or.inr h))
  · obtain ⟨h1, -⟩ := tyL_of hty
    refine s_tabC (k0 := 0) (tgt := 579) (dc kc_X6_run_0 26 rfl) ?_ rfl rfl rfl <| r_aload_n (dc kc_X6_run_2 13 rfl) rfl <| s_iload (dc kc_X6_run_2 14 rfl) rfl <| c_v1 (dc kc_X6_run_2 15 rfl) cl_X6_56 rfl (Nat.le_of_ble_eq_true rfl) (Nat.zero_le _) (Nat.zero_le _) ?_
    · rfl
    · refine u_follow hL hr hcel hc h1.1 (by omega) hB (fun m1 g1 e6 e7 e8 hAw hBw => ?_)
      have k2 : m1 r 50 2 = st.length := by rw [g1.at (by simp [pV]), ht]
      have k4 : m1 r 50 4 = mi r 50 4 := g1.at (by simp [pV])
      have k52 : m1 r 52 = mi r 52 := g1.row (fun k => by simp [pV])
      have gc : Cg (pQ r) mi m1 := g1.mono (fun _ _ _ z => by simp [pQ, pV, pRd] at z ⊢; omega)
      have ecl : clG m1 g = clG mi g := by unfold clG; rw [g1.row (fun k => by simp [pV])]
      have hwr := way_rg hc h1.1 (by omega : a < 3)
      have hwl := way_len (clG mi g) a
      refine r_aload_n (dc kc_X6_run_2 16 rfl) rfl <| r_aload_n (dc kc_X6_run_2 17 rfl) rfl <| s_getZ (dc kc_X6_run_2 18 rfl) fl_X6_38 <| s_if_eq (tgt := 597) (dc kc_X6_run_2 19 rfl) rfl (fun c590 => (k_i (dc kc_X6_run_2 22 rfl) rfl <| ?_)) (fun c590 => (k_i (dc kc_X6_run_2 20 rfl) rfl <| s_goto (tgt := 598) (dc kc_X6_run_2 21 rfl) rfl <| ?_))
      · refine c_v1 (dc kc_X6_run_2 23 rfl) cl_X6_63 rfl (Nat.le_of_ble_eq_true rfl) (Nat.zero_le _) (Nat.zero_le _) ?_
        refine u_push hL hr (st := st) k2 h59 (by rw [k52]; exact hA) (fun m2 g2 e2 a2 => ?_)
        refine s_goto (tgt := 845) (dc kc_X6_run_2 24 rfl) rfl <| ?_
        rw [e8] at c590
        exact fin m1 m2 _ st _ gc hBw k4 (Nat.le_refl _) (by rw [ev1_0, bi_f (bi_eq0.mp c590)]) g2 e2 a2
      · refine c_v1 (dc kc_X6_run_2 23 rfl) cl_X6_63 rfl (Nat.le_of_ble_eq_true rfl) (Nat.zero_le _) (Nat.zero_le _) ?_
        refine u_push hL hr (st := st) k2 h59 (by rw [k52]; exact hA) (fun m2 g2 e2 a2 => ?_)
        refine s_goto (tgt := 845) (dc kc_X6_run_2 24 rfl) rfl <| ?_
        rw [e8] at c590
        exact fin m1 m2 _ st _ gc hBw k4 (Nat.le_refl _) (by rw [ev1_0, bi_t (bi_ne0.mp c590)]) g2 e2 a2
  · obtain ⟨h1, -⟩ := tyL_of hty
    refine s_tabC (k0 := 1) (tgt := 604) (dc kc_X6_run_0 26 rfl) ?_ rfl rfl rfl <| r_aload_n (dc kc_X6_run_2 25 rfl) rfl <| s_iload (dc kc_X6_run_2 26 rfl) rfl <| c_v1 (dc kc_X6_run_2 27 rfl) cl_X6_56 rfl (Nat.le_of_ble_eq_true rfl) (Nat.zero_le _) (Nat.zero_le _) ?_
    · rfl
    · refine u_follow hL hr hcel hc h1.1 (by omega) hB (fun m1 g1 e6 e7 e8 hAw hBw => ?_)
      have k2 : m1 r 50 2 = st.length := by rw [g1.at (by simp [pV]), ht]
      have k4 : m1 r 50 4 = mi r 50 4 := g1.at (by simp [pV])
      have k52 : m1 r 52 = mi r 52 := g1.row (fun k => by simp [pV])
      have gc : Cg (pQ r) mi m1 := g1.mono (fun _ _ _ z => by simp [pQ, pV, pRd] at z ⊢; omega)
      have ecl : clG m1 g = clG mi g := by unfold clG; rw [g1.row (fun k => by simp [pV])]
      have hwr := way_rg hc h1.1 (by omega : a < 3)
      have hwl := way_len (clG mi g) a
      refine r_aload_n (dc kc_X6_run_2 28 rfl) rfl <| r_aload_n (dc kc_X6_run_2 29 rfl) rfl <| c_v0r (dc kc_X6_run_2 30 rfl) cl_X6_81 rfl (Nat.le_of_ble_eq_true rfl) (Nat.zero_le _) (Nat.zero_le _) ?_
      refine u_isWayTwin hL hr hcel (by rw [ecl]; exact hc) hwr hwl e6 e7 hAw hBw (fun m2 g2 hB2 => ?_)
      rw [ecl]
      have hB3 : Bm (m2 r 50 3) (askW (clG mi g) a 1 0 ++ rd) := (hB2.mem (fun x x0 x1 => by
          unfold askW askN
          simp
          constructor
          · rintro (⟨y, p, q⟩ | h | ⟨y, p, q⟩ | h)
            · exact Or.inr (Or.inl ⟨y, p, Or.inr q.symm⟩)
            · exact Or.inl h
            · exact Or.inr (Or.inl ⟨y, p, Or.inl q⟩)
            · exact Or.inr (Or.inr h)
          · rintro (h | ⟨y, p, q | q⟩ | h)
            · exact Or.inr (Or.inl h)
            · exact Or.inr (Or.inr (Or.inl ⟨y, p, q⟩))
            · exact Or.inl ⟨y, p, q.symm⟩
            · exact Or.inr (Or.inr (Or.inr h))))
      refine s_if_eq (tgt := 622) (dc kc_X6_run_2 31 rfl) rfl (fun c615 => (k_i (dc kc_X6_run_2 34 rfl) rfl <| ?_)) (fun c615 => (k_i (dc kc_X6_run_2 32 rfl) rfl <| s_goto (tgt := 623) (dc kc_X6_run_2 33 rfl) rfl <| ?_))
      · refine c_v1 (dc kc_X6_run_2 35 rfl) cl_X6_63 rfl (Nat.le_of_ble_eq_true rfl) (Nat.zero_le _) (Nat.zero_le _) ?_
        refine u_push hL hr (st := st) (by rw [g2.at (by simp [pRd]), k2]) h59 (by rw [g2.row (fun k => by simp [pRd]), k52]; exact hA) (fun m3 g3 e3 a3 => ?_)
        refine s_goto (tgt := 845) (dc kc_X6_run_2 36 rfl) rfl <| ?_
        exact fin m2 m3 _ st _ (gc.tr (g2.mono (fun _ _ _ z => by simp [pQ, pV, pRd] at z ⊢; omega))) hB3 (by rw [g2.at (by simp [pRd]), k4]) (Nat.le_refl _) (by rw [ev1_1, bi_f (bi_eq0.mp c615)]) g3 e3 a3
      · refine c_v1 (dc kc_X6_run_2 35 rfl) cl_X6_63 rfl (Nat.le_of_ble_eq_true rfl) (Nat.zero_le _) (Nat.zero_le _) ?_
        refine u_push hL hr (st := st) (by rw [g2.at (by simp [pRd]), k2]) h59 (by rw [g2.row (fun k => by simp [pRd]), k52]; exact hA) (fun m3 g3 e3 a3 => ?_)
        refine s_goto (tgt := 845) (dc kc_X6_run_2 36 rfl) rfl <| ?_
        exact fin m2 m3 _ st _ (gc.tr (g2.mono (fun _ _ _ z => by simp [pQ, pV, pRd] at z ⊢; omega))) hB3 (by rw [g2.at (by simp [pRd]), k4]) (Nat.le_refl _) (by rw [ev1_1, bi_t (bi_ne0.mp c615)]) g3 e3 a3
  · obtain ⟨h1, -⟩ := tyL_of hty
    refine s_tabC (k0 := 2) (tgt := 629) (dc kc_X6_run_0 26 rfl) ?_ rfl rfl rfl <| r_aload_n (dc kc_X6_run_2 37 rfl) rfl <| s_iload (dc kc_X6_run_2 38 rfl) rfl <| c_v1 (dc kc_X6_run_2 39 rfl) cl_X6_56 rfl (Nat.le_of_ble_eq_true rfl) (Nat.zero_le _) (Nat.zero_le _) ?_
    · rfl
    · refine u_follow hL hr hcel hc h1.1 (by omega) hB (fun m1 g1 e6 e7 e8 hAw hBw => ?_)
      have k2 : m1 r 50 2 = st.length := by rw [g1.at (by simp [pV]), ht]
      have k4 : m1 r 50 4 = mi r 50 4 := g1.at (by simp [pV])
      have k52 : m1 r 52 = mi r 52 := g1.row (fun k => by simp [pV])
      have gc : Cg (pQ r) mi m1 := g1.mono (fun _ _ _ z => by simp [pQ, pV, pRd] at z ⊢; omega)
      have ecl : clG m1 g = clG mi g := by unfold clG; rw [g1.row (fun k => by simp [pV])]
      have hwr := way_rg hc h1.1 (by omega : a < 3)
      have hwl := way_len (clG mi g) a
      refine r_aload_n (dc kc_X6_run_3 0 rfl) rfl <| r_aload_n (dc kc_X6_run_3 1 rfl) rfl <| c_v0r (dc kc_X6_run_3 2 rfl) cl_X6_85 rfl (Nat.le_of_ble_eq_true rfl) (Nat.zero_le _) (Nat.zero_le _) ?_
      refine u_isWayRising hL hr hcel (by rw [ecl]; exact hc) hwr hwl e6 e7 hAw hBw (fun m2 g2 hB2 => ?_)
      rw [ecl]
      have hB3 : Bm (m2 r 50 3) (askW (clG mi g) a 0 1 ++ rd) := (hB2.mem (fun x x0 x1 => by
          unfold askW askN
          simp
          constructor
          · rintro (⟨y, p, q⟩ | h | ⟨y, p, q⟩ | h)
            · exact Or.inr (Or.inl ⟨y, p, Or.inr q.symm⟩)
            · exact Or.inl h
            · exact Or.inr (Or.inl ⟨y, p, Or.inl q⟩)
            · exact Or.inr (Or.inr h)
          · rintro (h | ⟨y, p, q | q⟩ | h)
            · exact Or.inr (Or.inl h)
            · exact Or.inr (Or.inr (Or.inl ⟨y, p, q⟩))
            · exact Or.inl ⟨y, p, q.symm⟩
            · exact Or.inr (Or.inr (Or.inr h))))
      refine s_if_eq (tgt := 647) (dc kc_X6_run_3 3 rfl) rfl (fun c640 => (k_i (dc kc_X6_run_3 6 rfl) rfl <| ?_)) (fun c640 => (k_i (dc kc_X6_run_3 4 rfl) rfl <| s_goto (tgt := 648) (dc kc_X6_run_3 5 rfl) rfl <| ?_))
      · refine c_v1 (dc kc_X6_run_3 7 rfl) cl_X6_63 rfl (Nat.le_of_ble_eq_true rfl) (Nat.zero_le _) (Nat.zero_le _) ?_
        refine u_push hL hr (st := st) (by rw [g2.at (by simp [pRd]), k2]) h59 (by rw [g2.row (fun k => by simp [pRd]), k52]; exact hA) (fun m3 g3 e3 a3 => ?_)
        refine s_goto (tgt := 845) (dc kc_X6_run_3 8 rfl) rfl <| ?_
        exact fin m2 m3 _ st _ (gc.tr (g2.mono (fun _ _ _ z => by simp [pQ, pV, pRd] at z ⊢; omega))) hB3 (by rw [g2.at (by simp [pRd]), k4]) (Nat.le_refl _) (by rw [ev1_2, bi_f (bi_eq0.mp c640)]) g3 e3 a3
      · refine c_v1 (dc kc_X6_run_3 7 rfl) cl_X6_63 rfl (Nat.le_of_ble_eq_true rfl) (Nat.zero_le _) (Nat.zero_le _) ?_
        refine u_push hL hr (st := st) (by rw [g2.at (by simp [pRd]), k2]) h59 (by rw [g2.row (fun k => by simp [pRd]), k52]; exact hA) (fun m3 g3 e3 a3 => ?_)
        refine s_goto (tgt := 845) (dc kc_X6_run_3 8 rfl) rfl <| ?_
        exact fin m2 m3 _ st _ (gc.tr (g2.mono (fun _ _ _ z => by simp [pQ, pV, pRd] at z ⊢; omega))) hB3 (by rw [g2.at (by simp [pRd]), k4]) (Nat.le_refl _) (by rw [ev1_2, bi_t (bi_ne0.mp c640)]) g3 e3 a3
  · obtain ⟨h1, -⟩ := tyL_of hty
    refine s_tabC (k0 := 25) (tgt := 654) (dc kc_X6_run_0 26 rfl) ?_ rfl rfl rfl <| r_aload_n (dc kc_X6_run_3 9 rfl) rfl <| s_iload (dc kc_X6_run_3 10 rfl) rfl <| c_v1 (dc kc_X6_run_3 11 rfl) cl_X6_56 rfl (Nat.le_of_ble_eq_true rfl) (Nat.zero_le _) (Nat.zero_le _) ?_
    · rfl
    · refine u_follow hL hr hcel hc h1.1 (by omega) hB (fun m1 g1 e6 e7 e8 hAw hBw => ?_)
      have k2 : m1 r 50 2 = st.length := by rw [g1.at (by simp [pV]), ht]
      have k4 : m1 r 50 4 = mi r 50 4 := g1.at (by simp [pV])
      have k52 : m1 r 52 = mi r 52 := g1.row (fun k => by simp [pV])
      have gc : Cg (pQ r) mi m1 := g1.mono (fun _ _ _ z => by simp [pQ, pV, pRd] at z ⊢; omega)
      have ecl : clG m1 g = clG mi g := by unfold clG; rw [g1.row (fun k => by simp [pV])]
      have hwr := way_rg hc h1.1 (by omega : a < 3)
      have hwl := way_len (clG mi g) a
      refine r_aload_n (dc kc_X6_run_3 12 rfl) rfl <| r_aload_n (dc kc_X6_run_3 13 rfl) rfl <| s_getI (dc kc_X6_run_3 14 rfl) fl_X6_35 <| c_v1 (dc kc_X6_run_3 15 rfl) cl_X6_63 rfl (Nat.le_of_ble_eq_true rfl) (Nat.zero_le _) (Nat.zero_le _) ?_
      refine u_push hL hr (st := st) k2 h59 (by rw [k52]; exact hA) (fun m2 g2 e2 a2 => ?_)
      rw [e7] at e2 a2
      refine s_goto (tgt := 845) (dc kc_X6_run_3 16 rfl) rfl <| ?_
      exact fin m1 m2 _ st _ gc hBw k4 (Nat.le_refl _) ev1_25 g2 e2 a2
  · obtain ⟨h1, r2, e2, e3⟩ : (0 ≤ a ∧ a ≤ 2) ∧ ∃ r2, ts = 3 :: r2 ∧ ts' = 2 :: r2 := by
      cases h2 : tyL 2 a 2 ts with
      | none => rw [show ty1 3 a ts = (tyL 2 a 2 ts).bind fun _ => tyU 3 2 ts from rfl, h2] at hty; cases hty
      | some z =>
        rw [show ty1 3 a ts = (tyL 2 a 2 ts).bind fun _ => tyU 3 2 ts from rfl, h2] at hty
        exact ⟨(tyL_of h2).1, tyU_of (show tyU 3 2 ts = some ts' from hty)⟩
    subst e2
    subst e3
    obtain ⟨v, vs, e4, hv, hvs⟩ := hT.cons
    subst e4
    rw [List.length_cons] at h59
    refine s_tabC (k0 := 3) (tgt := 671) (dc kc_X6_run_0 26 rfl) ?_ rfl rfl rfl <| r_aload_n (dc kc_X6_run_3 17 rfl) rfl <| s_iload (dc kc_X6_run_3 18 rfl) rfl <| c_v1 (dc kc_X6_run_3 19 rfl) cl_X6_56 rfl (Nat.le_of_ble_eq_true rfl) (Nat.zero_le _) (Nat.zero_le _) ?_
    · rfl
    · refine u_follow hL hr hcel hc h1.1 (by omega) hB (fun m1 g1 e6 e7 e8 hAw hBw => ?_)
      have k2 : m1 r 50 2 = ((v :: vs).length : Int) := by rw [g1.at (by simp [pV]), ht]
      have k4 : m1 r 50 4 = mi r 50 4 := g1.at (by simp [pV])
      have k52 : m1 r 52 = mi r 52 := g1.row (fun k => by simp [pV])
      have gc : Cg (pQ r) mi m1 := g1.mono (fun _ _ _ z => by simp [pQ, pV, pRd] at z ⊢; omega)
      refine r_aload_n (dc kc_X6_run_3 20 rfl) rfl <| r_aload_n (dc kc_X6_run_3 21 rfl) rfl <| c_v0r (dc kc_X6_run_3 22 rfl) cl_X6_70 rfl (Nat.le_of_ble_eq_true rfl) (Nat.zero_le _) (Nat.zero_le _) ?_
      refine u_pop hL hr k2 (by omega) (by rw [k52]; exact hA) (fun m2 g2 e2 a2 => ?_)
      have e72 : m2 r 50 7 = msk (way (clG mi g) a) := by rw [g2.at (by simp), e7]
      refine r_aload_n (dc kc_X6_run_3 23 rfl) rfl <| s_getI (dc kc_X6_run_3 24 rfl) fl_X6_35 <| s_iand (dc kc_X6_run_3 25 rfl) <| s_if_ne (tgt := 694) (dc kc_X6_run_3 26 rfl) rfl (fun c687 => (k_i (dc kc_X6_run_3 29 rfl) rfl <| ?_)) (fun c687 => (k_i (dc kc_X6_run_3 27 rfl) rfl <| s_goto (tgt := 695) (dc kc_X6_run_3 28 rfl) rfl <| ?_))
      · rw [e72] at c687
        refine c_v1 (dc kc_X6_run_3 30 rfl) cl_X6_63 rfl (Nat.le_of_ble_eq_true rfl) (Nat.zero_le _) (Nat.zero_le _) ?_
        refine u_push hL hr (st := vs) e2 (by omega) a2 (fun m3 g3 e3 a3 => ?_)
        refine s_goto (tgt := 845) (dc kc_X6_run_3 31 rfl) rfl <| ?_
        exact fin m2 m3 _ vs _ (gc.tr (g2.mono (fun _ _ _ z => by simp [pQ, pV, pRd] at z ⊢; omega))) (by rw [g2.at (by simp)]; exact hBw) (by rw [g2.at (by simp), k4]) (by rw [List.length_cons]; omega) (by rw [ev1_3, bi_f c687]) g3 e3 a3
      · rw [e72] at c687
        refine c_v1 (dc kc_X6_run_3 30 rfl) cl_X6_63 rfl (Nat.le_of_ble_eq_true rfl) (Nat.zero_le _) (Nat.zero_le _) ?_
        refine u_push hL hr (st := vs) e2 (by omega) a2 (fun m3 g3 e3 a3 => ?_)
        refine s_goto (tgt := 845) (dc kc_X6_run_3 31 rfl) rfl <| ?_
        exact fin m2 m3 _ vs _ (gc.tr (g2.mono (fun _ _ _ z => by simp [pQ, pV, pRd] at z ⊢; omega))) (by rw [g2.at (by simp)]; exact hBw) (by rw [g2.at (by simp), k4]) (by rw [List.length_cons]; omega) (by rw [ev1_3, bi_t c687]) g3 e3 a3
  · obtain ⟨r2, e2, e3⟩ := tyU_of (x := 2) (y := 2) hty
    subst e2
    subst e3
    obtain ⟨v, vs, e4, hv, hvs⟩ := hT.cons
    subst e4
    have hv := hv.2 rfl
    rw [List.length_cons] at h59
    refine s_tabC (k0 := 18) (tgt := 701) (dc kc_X6_run_0 26 rfl) ?_ rfl rfl rfl <| r_aload_n (dc kc_X6_run_3 32 rfl) rfl <| k_i (dc kc_X6_run_3 33 rfl) rfl <| r_aload_n (dc kc_X6_run_3 34 rfl) rfl <| c_v0r (dc kc_X6_run_3 35 rfl) cl_X6_70 rfl (Nat.le_of_ble_eq_true rfl) (Nat.zero_le _) (Nat.zero_le _) ?_
    · rfl
    · refine u_pop hL hr ht (by omega) hA (fun m1 g1 e1 a1 => ?_)
      refine b_isub (dc kc_X6_run_3 36 rfl) (by first | omega | (simp [up] <;> omega)) (by first | omega | (simp [up] <;> omega)) <| c_v1 (dc kc_X6_run_3 37 rfl) cl_X6_63 rfl (Nat.le_of_ble_eq_true rfl) (Nat.zero_le _) (Nat.zero_le _) ?_
      refine u_push hL hr (st := vs) e1 (by omega) a1 (fun m2 g2 e2 a2 => ?_)
      refine s_goto (tgt := 845) (dc kc_X6_run_3 38 rfl) rfl <| ?_
      exact fin m1 m2 _ vs _ (g1.mono (fun _ _ _ z => by simp [pQ, pV, pRd] at z ⊢; omega)) (by rw [g1.at (by simp)]; exact hB) (g1.at (by simp)) (by rw [List.length_cons]; omega) ev1_18 g2 e2 a2
  · obtain ⟨r2, e2, e3⟩ := tyD_of (x := 1) (y := 1) hty
    subst e2
    subst e3
    obtain ⟨v, vs, e4, hv, hvs⟩ := hT.cons
    subst e4
    obtain ⟨u, us, e5, hu, hus⟩ := hvs.cons
    subst e5
    have hnn := sab_nn r2 us
    have hsb := hsab
    rw [sab, sab] at hsb
    try simp only [if_true, ↓reduceIte] at hsb
    have bu : -2000000 ≤ u ∧ u ≤ 2000000 := by first | (have := hu.2 rfl; omega) | omega
    have bv : -2000000 ≤ v ∧ v ≤ 2000000 := by first | (have := hv.2 rfl; omega) | omega
    rw [List.length_cons, List.length_cons] at h59
    refine s_tabC (k0 := 75) (tgt := 714) (dc kc_X6_run_0 26 rfl) ?_ rfl rfl rfl <| r_aload_n (dc kc_X6_run_3 39 rfl) rfl <| r_aload_n (dc kc_X6_run_4 0 rfl) rfl <| c_v0r (dc kc_X6_run_4 1 rfl) cl_X6_70 rfl (Nat.le_of_ble_eq_true rfl) (Nat.zero_le _) (Nat.zero_le _) ?_
    · rfl
    · refine u_pop hL hr ht (by rw [List.length_cons]; omega) hA (fun m1 g1 e1 a1 => ?_)
      refine r_aload_n (dc kc_X6_run_4 2 rfl) rfl <| c_v0r (dc kc_X6_run_4 3 rfl) cl_X6_70 rfl (Nat.le_of_ble_eq_true rfl) (Nat.zero_le _) (Nat.zero_le _) ?_
      refine u_pop hL hr e1 (by omega) a1 (fun m2 g2 e2 a2 => ?_)
      refine b_iadd (dc kc_X6_run_4 4 rfl) (by first | omega | (simp [up] <;> omega)) (by first | omega | (simp [up] <;> omega)) <| c_v1 (dc kc_X6_run_4 5 rfl) cl_X6_63 rfl (Nat.le_of_ble_eq_true rfl) (Nat.zero_le _) (Nat.zero_le _) ?_
      refine u_push hL hr (st := us) e2 (by omega) a2 (fun m3 g3 e3 a3 => ?_)
      refine s_goto (tgt := 845) (dc kc_X6_run_4 6 rfl) rfl <| ?_
      exact fin m2 m3 _ us _ ((g1.mono (fun _ _ _ z => by simp [pQ, pV, pRd] at z ⊢; omega)).tr (g2.mono (fun _ _ _ z => by simp [pQ, pV, pRd] at z ⊢; omega))) (by rw [g2.at (by simp), g1.at (by simp)]; exact hB) (by rw [g2.at (by simp), g1.at (by simp)]) (by rw [List.length_cons, List.length_cons]; omega) (by rw [ev1_75, Int.add_comm]; rfl) g3 e3 a3
  · obtain ⟨r2, e2, e3⟩ := tyD_of (x := 1) (y := 1) hty
    subst e2
    subst e3
    obtain ⟨v, vs, e4, hv, hvs⟩ := hT.cons
    subst e4
    obtain ⟨u, us, e5, hu, hus⟩ := hvs.cons
    subst e5
    have hnn := sab_nn r2 us
    have hsb := hsab
    rw [sab, sab] at hsb
    try simp only [if_true, ↓reduceIte] at hsb
    have bu : -2000000 ≤ u ∧ u ≤ 2000000 := by first | (have := hu.2 rfl; omega) | omega
    have bv : -2000000 ≤ v ∧ v ≤ 2000000 := by first | (have := hv.2 rfl; omega) | omega
    rw [List.length_cons, List.length_cons] at h59
    refine s_tabC (k0 := 77) (tgt := 730) (dc kc_X6_run_0 26 rfl) ?_ rfl rfl rfl <| r_aload_n (dc kc_X6_run_4 7 rfl) rfl <| r_aload_n (dc kc_X6_run_4 8 rfl) rfl <| c_v0r (dc kc_X6_run_4 9 rfl) cl_X6_70 rfl (Nat.le_of_ble_eq_true rfl) (Nat.zero_le _) (Nat.zero_le _) ?_
    · rfl
    · refine u_pop hL hr ht (by rw [List.length_cons]; omega) hA (fun m1 g1 e1 a1 => ?_)
      refine b_ineg (dc kc_X6_run_4 10 rfl) (by first | omega | (simp [up] <;> omega)) (by first | omega | (simp [up] <;> omega)) <| r_aload_n (dc kc_X6_run_4 11 rfl) rfl <| c_v0r (dc kc_X6_run_4 12 rfl) cl_X6_70 rfl (Nat.le_of_ble_eq_true rfl) (Nat.zero_le _) (Nat.zero_le _) ?_
      refine u_pop hL hr e1 (by omega) a1 (fun m2 g2 e2 a2 => ?_)
      refine b_iadd (dc kc_X6_run_4 13 rfl) (by first | omega | (simp [up] <;> omega)) (by first | omega | (simp [up] <;> omega)) <| c_v1 (dc kc_X6_run_4 14 rfl) cl_X6_63 rfl (Nat.le_of_ble_eq_true rfl) (Nat.zero_le _) (Nat.zero_le _) ?_
      refine u_push hL hr (st := us) e2 (by omega) a2 (fun m3 g3 e3 a3 => ?_)
      refine s_goto (tgt := 845) (dc kc_X6_run_4 15 rfl) rfl <| ?_
      exact fin m2 m3 _ us _ ((g1.mono (fun _ _ _ z => by simp [pQ, pV, pRd] at z ⊢; omega)).tr (g2.mono (fun _ _ _ z => by simp [pQ, pV, pRd] at z ⊢; omega))) (by rw [g2.at (by simp), g1.at (by simp)]; exact hB) (by rw [g2.at (by simp), g1.at (by simp)]) (by rw [List.length_cons, List.length_cons]; omega) (by rw [ev1_77]; congr 3; omega) g3 e3 a3
  · obtain ⟨r2, e2, e3⟩ := tyD_of (x := 1) (y := 2) hty
    subst e2
    subst e3
    obtain ⟨v, vs, e4, hv, hvs⟩ := hT.cons
    subst e4
    obtain ⟨u, us, e5, hu, hus⟩ := hvs.cons
    subst e5
    have hnn := sab_nn r2 us
    have hsb := hsab
    rw [sab, sab] at hsb
    try simp only [if_true, ↓reduceIte] at hsb
    have bu : -2000000 ≤ u ∧ u ≤ 2000000 := by first | (have := hu.2 rfl; omega) | omega
    have bv : -2000000 ≤ v ∧ v ≤ 2000000 := by first | (have := hv.2 rfl; omega) | omega
    rw [List.length_cons, List.length_cons] at h59
    refine s_tabC (k0 := 92) (tgt := 747) (dc kc_X6_run_0 26 rfl) ?_ rfl rfl rfl <| r_aload_n (dc kc_X6_run_4 16 rfl) rfl <| r_aload_n (dc kc_X6_run_4 17 rfl) rfl <| c_v0r (dc kc_X6_run_4 18 rfl) cl_X6_70 rfl (Nat.le_of_ble_eq_true rfl) (Nat.zero_le _) (Nat.zero_le _) ?_
    · rfl
    · refine u_pop hL hr ht (by rw [List.length_cons]; omega) hA (fun m1 g1 e1 a1 => ?_)
      refine r_aload_n (dc kc_X6_run_4 19 rfl) rfl <| c_v0r (dc kc_X6_run_4 20 rfl) cl_X6_70 rfl (Nat.le_of_ble_eq_true rfl) (Nat.zero_le _) (Nat.zero_le _) ?_
      refine u_pop hL hr e1 (by omega) a1 (fun m2 g2 e2 a2 => ?_)
      refine s_icmp_le (tgt := 763) (dc kc_X6_run_4 21 rfl) rfl (fun c756 => (k_i (dc kc_X6_run_4 24 rfl) rfl <| ?_)) (fun c756 => (k_i (dc kc_X6_run_4 22 rfl) rfl <| s_goto (tgt := 764) (dc kc_X6_run_4 23 rfl) rfl <| ?_))
      · refine c_v1 (dc kc_X6_run_4 25 rfl) cl_X6_63 rfl (Nat.le_of_ble_eq_true rfl) (Nat.zero_le _) (Nat.zero_le _) ?_
        refine u_push hL hr (st := us) e2 (by omega) a2 (fun m3 g3 e3 a3 => ?_)
        refine s_goto (tgt := 845) (dc kc_X6_run_4 26 rfl) rfl <| ?_
        exact fin m2 m3 _ us _ ((g1.mono (fun _ _ _ z => by simp [pQ, pV, pRd] at z ⊢; omega)).tr (g2.mono (fun _ _ _ z => by simp [pQ, pV, pRd] at z ⊢; omega))) (by rw [g2.at (by simp), g1.at (by simp)]; exact hB) (by rw [g2.at (by simp), g1.at (by simp)]) (by rw [List.length_cons, List.length_cons]; omega) (by rw [ev1_92, bi_f (by omega)]; rfl) g3 e3 a3
      · refine c_v1 (dc kc_X6_run_4 25 rfl) cl_X6_63 rfl (Nat.le_of_ble_eq_true rfl) (Nat.zero_le _) (Nat.zero_le _) ?_
        refine u_push hL hr (st := us) e2 (by omega) a2 (fun m3 g3 e3 a3 => ?_)
        refine s_goto (tgt := 845) (dc kc_X6_run_4 26 rfl) rfl <| ?_
        exact fin m2 m3 _ us _ ((g1.mono (fun _ _ _ z => by simp [pQ, pV, pRd] at z ⊢; omega)).tr (g2.mono (fun _ _ _ z => by simp [pQ, pV, pRd] at z ⊢; omega))) (by rw [g2.at (by simp), g1.at (by simp)]; exact hB) (by rw [g2.at (by simp), g1.at (by simp)]) (by rw [List.length_cons, List.length_cons]; omega) (by rw [ev1_92, bi_t (by omega)]; rfl) g3 e3 a3
  · obtain ⟨r2, e2, e3⟩ := tyD_of (x := 1) (y := 2) hty
    subst e2
    subst e3
    obtain ⟨v, vs, e4, hv, hvs⟩ := hT.cons
    subst e4
    obtain ⟨u, us, e5, hu, hus⟩ := hvs.cons
    subst e5
    have hnn := sab_nn r2 us
    have hsb := hsab
    rw [sab, sab] at hsb
    try simp only [if_true, ↓reduceIte] at hsb
    have bu : -2000000 ≤ u ∧ u ≤ 2000000 := by first | (have := hu.2 rfl; omega) | omega
    have bv : -2000000 ≤ v ∧ v ≤ 2000000 := by first | (have := hv.2 rfl; omega) | omega
    rw [List.length_cons, List.length_cons] at h59
    refine s_tabC (k0 := 94) (tgt := 770) (dc kc_X6_run_0 26 rfl) ?_ rfl rfl rfl <| r_aload_n (dc kc_X6_run_4 27 rfl) rfl <| r_aload_n (dc kc_X6_run_4 28 rfl) rfl <| c_v0r (dc kc_X6_run_4 29 rfl) cl_X6_70 rfl (Nat.le_of_ble_eq_true rfl) (Nat.zero_le _) (Nat.zero_le _) ?_
    · rfl
    · refine u_pop hL hr ht (by rw [List.length_cons]; omega) hA (fun m1 g1 e1 a1 => ?_)
      refine r_aload_n (dc kc_X6_run_4 30 rfl) rfl <| c_v0r (dc kc_X6_run_4 31 rfl) cl_X6_70 rfl (Nat.le_of_ble_eq_true rfl) (Nat.zero_le _) (Nat.zero_le _) ?_
      refine u_pop hL hr e1 (by omega) a1 (fun m2 g2 e2 a2 => ?_)
      refine s_icmp_ge (tgt := 786) (dc kc_X6_run_4 32 rfl) rfl (fun c779 => (k_i (dc kc_X6_run_4 35 rfl) rfl <| ?_)) (fun c779 => (k_i (dc kc_X6_run_4 33 rfl) rfl <| s_goto (tgt := 787) (dc kc_X6_run_4 34 rfl) rfl <| ?_))
      · refine c_v1 (dc kc_X6_run_4 36 rfl) cl_X6_63 rfl (Nat.le_of_ble_eq_true rfl) (Nat.zero_le _) (Nat.zero_le _) ?_
        refine u_push hL hr (st := us) e2 (by omega) a2 (fun m3 g3 e3 a3 => ?_)
        refine s_goto (tgt := 845) (dc kc_X6_run_4 37 rfl) rfl <| ?_
        exact fin m2 m3 _ us _ ((g1.mono (fun _ _ _ z => by simp [pQ, pV, pRd] at z ⊢; omega)).tr (g2.mono (fun _ _ _ z => by simp [pQ, pV, pRd] at z ⊢; omega))) (by rw [g2.at (by simp), g1.at (by simp)]; exact hB) (by rw [g2.at (by simp), g1.at (by simp)]) (by rw [List.length_cons, List.length_cons]; omega) (by rw [ev1_94, bi_f (by omega)]; rfl) g3 e3 a3
      · refine c_v1 (dc kc_X6_run_4 36 rfl) cl_X6_63 rfl (Nat.le_of_ble_eq_true rfl) (Nat.zero_le _) (Nat.zero_le _) ?_
        refine u_push hL hr (st := us) e2 (by omega) a2 (fun m3 g3 e3 a3 => ?_)
        refine s_goto (tgt := 845) (dc kc_X6_run_4 37 rfl) rfl <| ?_
        exact fin m2 m3 _ us _ ((g1.mono (fun _ _ _ z => by simp [pQ, pV, pRd] at z ⊢; omega)).tr (g2.mono (fun _ _ _ z => by simp [pQ, pV, pRd] at z ⊢; omega))) (by rw [g2.at (by simp), g1.at (by simp)]; exact hB) (by rw [g2.at (by simp), g1.at (by simp)]) (by rw [List.length_cons, List.length_cons]; omega) (by rw [ev1_94, bi_t (by omega)]; rfl) g3 e3 a3
  · obtain ⟨r2, e2, e3⟩ := tyD_of (x := 1) (y := 2) hty
    subst e2
    subst e3
    obtain ⟨v, vs, e4, hv, hvs⟩ := hT.cons
    subst e4
    obtain ⟨u, us, e5, hu, hus⟩ := hvs.cons
    subst e5
    have hnn := sab_nn r2 us
    have hsb := hsab
    rw [sab, sab] at hsb
    try simp only [if_true, ↓reduceIte] at hsb
    have bu : -2000000 ≤ u ∧ u ≤ 2000000 := by first | (have := hu.2 rfl; omega) | omega
    have bv : -2000000 ≤ v ∧ v ≤ 2000000 := by first | (have := hv.2 rfl; omega) | omega
    rw [List.length_cons, List.length_cons] at h59
    refine s_tabC (k0 := 93) (tgt := 793) (dc kc_X6_run_0 26 rfl) ?_ rfl rfl rfl <| r_aload_n (dc kc_X6_run_4 38 rfl) rfl <| r_aload_n (dc kc_X6_run_4 39 rfl) rfl <| c_v0r (dc kc_X6_run_5 0 rfl) cl_X6_70 rfl (Nat.le_of_ble_eq_true rfl) (Nat.zero_le _) (Nat.zero_le _) ?_
    · rfl
    · refine u_pop hL hr ht (by rw [List.length_cons]; omega) hA (fun m1 g1 e1 a1 => ?_)
      refine r_aload_n (dc kc_X6_run_5 1 rfl) rfl <| c_v0r (dc kc_X6_run_5 2 rfl) cl_X6_70 rfl (Nat.le_of_ble_eq_true rfl) (Nat.zero_le _) (Nat.zero_le _) ?_
      refine u_pop hL hr e1 (by omega) a1 (fun m2 g2 e2 a2 => ?_)
      refine s_icmp_ne (tgt := 809) (dc kc_X6_run_5 3 rfl) rfl (fun c802 => (k_i (dc kc_X6_run_5 6 rfl) rfl <| ?_)) (fun c802 => (k_i (dc kc_X6_run_5 4 rfl) rfl <| s_goto (tgt := 810) (dc kc_X6_run_5 5 rfl) rfl <| ?_))
      · refine c_v1 (dc kc_X6_run_5 7 rfl) cl_X6_63 rfl (Nat.le_of_ble_eq_true rfl) (Nat.zero_le _) (Nat.zero_le _) ?_
        refine u_push hL hr (st := us) e2 (by omega) a2 (fun m3 g3 e3 a3 => ?_)
        refine s_goto (tgt := 845) (dc kc_X6_run_5 8 rfl) rfl <| ?_
        exact fin m2 m3 _ us _ ((g1.mono (fun _ _ _ z => by simp [pQ, pV, pRd] at z ⊢; omega)).tr (g2.mono (fun _ _ _ z => by simp [pQ, pV, pRd] at z ⊢; omega))) (by rw [g2.at (by simp), g1.at (by simp)]; exact hB) (by rw [g2.at (by simp), g1.at (by simp)]) (by rw [List.length_cons, List.length_cons]; omega) (by rw [ev1_93, bi_f (by omega)]; rfl) g3 e3 a3
      · refine c_v1 (dc kc_X6_run_5 7 rfl) cl_X6_63 rfl (Nat.le_of_ble_eq_true rfl) (Nat.zero_le _) (Nat.zero_le _) ?_
        refine u_push hL hr (st := us) e2 (by omega) a2 (fun m3 g3 e3 a3 => ?_)
        refine s_goto (tgt := 845) (dc kc_X6_run_5 8 rfl) rfl <| ?_
        exact fin m2 m3 _ us _ ((g1.mono (fun _ _ _ z => by simp [pQ, pV, pRd] at z ⊢; omega)).tr (g2.mono (fun _ _ _ z => by simp [pQ, pV, pRd] at z ⊢; omega))) (by rw [g2.at (by simp), g1.at (by simp)]; exact hB) (by rw [g2.at (by simp), g1.at (by simp)]) (by rw [List.length_cons, List.length_cons]; omega) (by rw [ev1_93, bi_t (by omega)]; rfl) g3 e3 a3
  · obtain ⟨r2, e2, e3⟩ := tyD_of (x := 2) (y := 2) hty
    subst e2
    subst e3
    obtain ⟨v, vs, e4, hv, hvs⟩ := hT.cons
    subst e4
    obtain ⟨u, us, e5, hu, hus⟩ := hvs.cons
    subst e5
    have hnn := sab_nn r2 us
    have hsb := hsab
    rw [sab, sab] at hsb
    try simp only [if_true, ↓reduceIte] at hsb
    have bu : -2000000 ≤ u ∧ u ≤ 2000000 := by first | (have := hu.2 rfl; omega) | omega
    have bv : -2000000 ≤ v ∧ v ≤ 2000000 := by first | (have := hv.2 rfl; omega) | omega
    rw [List.length_cons, List.length_cons] at h59
    refine s_tabC (k0 := 17) (tgt := 816) (dc kc_X6_run_0 26 rfl) ?_ rfl rfl rfl <| r_aload_n (dc kc_X6_run_5 9 rfl) rfl <| r_aload_n (dc kc_X6_run_5 10 rfl) rfl <| c_v0r (dc kc_X6_run_5 11 rfl) cl_X6_70 rfl (Nat.le_of_ble_eq_true rfl) (Nat.zero_le _) (Nat.zero_le _) ?_
    · rfl
    · refine u_pop hL hr ht (by rw [List.length_cons]; omega) hA (fun m1 g1 e1 a1 => ?_)
      refine r_aload_n (dc kc_X6_run_5 12 rfl) rfl <| c_v0r (dc kc_X6_run_5 13 rfl) cl_X6_70 rfl (Nat.le_of_ble_eq_true rfl) (Nat.zero_le _) (Nat.zero_le _) ?_
      refine u_pop hL hr e1 (by omega) a1 (fun m2 g2 e2 a2 => ?_)
      refine s_iand (dc kc_X6_run_5 14 rfl) <| c_v1 (dc kc_X6_run_5 15 rfl) cl_X6_63 rfl (Nat.le_of_ble_eq_true rfl) (Nat.zero_le _) (Nat.zero_le _) ?_
      refine u_push hL hr (st := us) e2 (by omega) a2 (fun m3 g3 e3 a3 => ?_)
      refine s_goto (tgt := 845) (dc kc_X6_run_5 16 rfl) rfl <| ?_
      exact fin m2 m3 _ us _ ((g1.mono (fun _ _ _ z => by simp [pQ, pV, pRd] at z ⊢; omega)).tr (g2.mono (fun _ _ _ z => by simp [pQ, pV, pRd] at z ⊢; omega))) (by rw [g2.at (by simp), g1.at (by simp)]; exact hB) (by rw [g2.at (by simp), g1.at (by simp)]) (by rw [List.length_cons, List.length_cons]; omega) (by rw [ev1_17, bAnd_comm]; rfl) g3 e3 a3
  · obtain ⟨r2, e2, e3⟩ := tyD_of (x := 2) (y := 2) hty
    subst e2
    subst e3
    obtain ⟨v, vs, e4, hv, hvs⟩ := hT.cons
    subst e4
    obtain ⟨u, us, e5, hu, hus⟩ := hvs.cons
    subst e5
    have hnn := sab_nn r2 us
    have hsb := hsab
    rw [sab, sab] at hsb
    try simp only [if_true, ↓reduceIte] at hsb
    have bu : -2000000 ≤ u ∧ u ≤ 2000000 := by first | (have := hu.2 rfl; omega) | omega
    have bv : -2000000 ≤ v ∧ v ≤ 2000000 := by first | (have := hv.2 rfl; omega) | omega
    rw [List.length_cons, List.length_cons] at h59
    refine s_tabC (k0 := 16) (tgt := 832) (dc kc_X6_run_0 26 rfl) ?_ rfl rfl rfl <| r_aload_n (dc kc_X6_run_5 17 rfl) rfl <| r_aload_n (dc kc_X6_run_5 18 rfl) rfl <| c_v0r (dc kc_X6_run_5 19 rfl) cl_X6_70 rfl (Nat.le_of_ble_eq_true rfl) (Nat.zero_le _) (Nat.zero_le _) ?_
    · rfl
    · refine u_pop hL hr ht (by rw [List.length_cons]; omega) hA (fun m1 g1 e1 a1 => ?_)
      refine r_aload_n (dc kc_X6_run_5 20 rfl) rfl <| c_v0r (dc kc_X6_run_5 21 rfl) cl_X6_70 rfl (Nat.le_of_ble_eq_true rfl) (Nat.zero_le _) (Nat.zero_le _) ?_
      refine u_pop hL hr e1 (by omega) a1 (fun m2 g2 e2 a2 => ?_)
      refine s_ior (dc kc_X6_run_5 22 rfl) <| c_v1 (dc kc_X6_run_5 23 rfl) cl_X6_63 rfl (Nat.le_of_ble_eq_true rfl) (Nat.zero_le _) (Nat.zero_le _) ?_
      refine u_push hL hr (st := us) e2 (by omega) a2 (fun m3 g3 e3 a3 => ?_)
-- at the end
      exact fin m2 m3 _ us _ ((g1.mono (fun _ _ _ z => by simp [pQ, pV, pRd] at z ⊢; omega)).tr (g2.mono (fun _ _ _ z => by simp [pQ, pV, pRd] at z ⊢; omega))) (by rw [g2.at (by simp), g1.at (by simp)]; exact hB) (by rw [g2.at (by simp), g1.at (by simp)]) (by rw [List.length_cons, List.length_cons]; omega) (by rw [ev1_16, bOr_comm]; rfl) g3 e3 a3
end RD3
