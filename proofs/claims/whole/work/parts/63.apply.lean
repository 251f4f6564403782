/-! the class: its reader applies a piece of code -/
section RD3
variable {d n G : Nat} {mr : MR} {Q : V → MI → Nat → MR → Prop}
theorem u_apply (hL : Lay G mr) {mi : MI} {r g : Nat} (hr : r < 5) (hcel : mr r 50 0 = some (g, 16)) (hc : VC (clG mi g)) {t a : Int} {ts ts' : List Nat} {st rd : List Int} (hty : ty1 t a ts = some ts') (hT : Tys ts st) (ht : mi r 50 2 = st.length) (h59 : st.length < 60) (hA : Arr (mi r 52) st.reverse) (hB : Bm (mi r 50 3) rd) (hsab : sab ts st ≤ 1000000) (hQ : ∀ mi' st' rd', Cg (pQ r) mi mi' → mi' r 50 2 = (st'.length : Int) → Arr (mi' r 52) st'.reverse → Bm (mi' r 50 3) rd' → Tys ts' st' → sab ts' st' ≤ sab ts st + 99 → st'.length ≤ st.length + 1 → ((ev1 (clG mi g) t a st rd = some (st', rd') ∧ mi' r 50 4 = mi r 50 4) ∨ (ev1 (clG mi g) t a st rd = none ∧ mi' r 50 4 = 1)) → Q (vX 0) mi' n mr) : Tx (d+2) mt_X6_apply [vR (some (r, 50)), vI t, vI a] mi n mr Q := by
  have hok : okI G 50 r := hr
  refine tx_intro (ls := [vR (some (r, 50)), vI t, vI a]) om_X6_apply rfl (Nat.le_of_ble_eq_true rfl) ?_
  -- a value is pushed
  have fin : ∀ (m m1 : MI) (v : Int) (st0 rd' : List Int), Cg (pQ r) mi m → Bm (m r 50 3) rd' → m r 50 4 = mi r 50 4 → st0.length ≤ st.length → ev1 (clG mi g) t a st rd = some (v :: st0, rd') → Cg (fun g j k => g == r && (j == 52 || (j == 50 && k == 2))) m m1 → m1 r 50 2 = ((v :: st0).length : Int) → Arr (m1 r 52) (v :: st0).reverse → Q (vX 0) m1 n mr := by
    intro m m1 v st0 rd' hC hB' h4 hl he g1 e1 a1
    have hfit := ev1_ty' hc hty hT he
    refine hQ m1 (v :: st0) rd' (hC.tr (g1.mono (fun _ _ _ z => by simp [pQ, pV, pRd] at z ⊢; omega))) e1 a1 (by rw [g1.at (by simp)]; exact hB') hfit.1 hfit.2 (by rw [List.length_cons]; omega) (Or.inl ⟨he, by rw [g1.at (by simp), h4]⟩)
  rcases ty1_cs hty with rfl | rfl | rfl | rfl | rfl | rfl | rfl | rfl | rfl | rfl | rfl | rfl | rfl | rfl | rfl | rfl | rfl | rfl | rfl | rfl | rfl | rfl | rfl
  · refine s_iload_n (dc kc_X6_apply_0 0 rfl) rfl <| s_tabC (k0 := 22) (tgt := 396) (dc kc_X6_apply_0 1 rfl) ?_ rfl rfl rfl <| r_aload_n (dc kc_X6_apply_0 2 rfl) rfl <| s_iload_n (dc kc_X6_apply_0 3 rfl) rfl <| c_v1 (dc kc_X6_apply_0 4 rfl) cl_X6_71 rfl (Nat.le_of_ble_eq_true rfl) (Nat.zero_le _) (Nat.zero_le _) ?_
    · rfl
    · refine u_push hL hr ht h59 hA (fun m1 g1 e1 a1 => ?_)
      refine s_goto (tgt := 790) (dc kc_X6_apply_0 5 rfl) rfl <| s_return (dc kc_X6_apply_4 39 rfl) rfl (Nat.zero_le _) (Nat.zero_le _) ?_
      exact fin mi m1 _ st rd Cg.rf hB rfl (Nat.le_refl _) ev1_22 g1 e1 a1
  · refine s_iload_n (dc kc_X6_apply_0 0 rfl) rfl <| s_tabC (k0 := 13) (tgt := 404) (dc kc_X6_apply_0 1 rfl) ?_ rfl rfl rfl <| r_aload_n (dc kc_X6_apply_0 6 rfl) rfl <| s_iload_n (dc kc_X6_apply_0 7 rfl) rfl <| c_v1 (dc kc_X6_apply_0 8 rfl) cl_X6_71 rfl (Nat.le_of_ble_eq_true rfl) (Nat.zero_le _) (Nat.zero_le _) ?_
    · rfl
    · refine u_push hL hr ht h59 hA (fun m1 g1 e1 a1 => ?_)
      refine s_goto (tgt := 790) (dc kc_X6_apply_0 9 rfl) rfl <| s_return (dc kc_X6_apply_4 39 rfl) rfl (Nat.zero_le _) (Nat.zero_le _) ?_
      exact fin mi m1 _ st rd Cg.rf hB rfl (Nat.le_refl _) ev1_13 g1 e1 a1
  · refine s_iload_n (dc kc_X6_apply_0 0 rfl) rfl <| s_tabC (k0 := 14) (tgt := 412) (dc kc_X6_apply_0 1 rfl) ?_ rfl rfl rfl <| r_aload_n (dc kc_X6_apply_0 10 rfl) rfl <| k_i (dc kc_X6_apply_0 11 rfl) rfl <| c_v1 (dc kc_X6_apply_0 12 rfl) cl_X6_71 rfl (Nat.le_of_ble_eq_true rfl) (Nat.zero_le _) (Nat.zero_le _) ?_
    · rfl
    · refine u_push hL hr ht h59 hA (fun m1 g1 e1 a1 => ?_)
      refine s_goto (tgt := 790) (dc kc_X6_apply_0 13 rfl) rfl <| s_return (dc kc_X6_apply_4 39 rfl) rfl (Nat.zero_le _) (Nat.zero_le _) ?_
      exact fin mi m1 _ st rd Cg.rf hB rfl (Nat.le_refl _) ev1_14 g1 e1 a1
  · obtain ⟨h1, -⟩ := tyL_of hty
    refine s_iload_n (dc kc_X6_apply_0 0 rfl) rfl <| s_tabC (k0 := 8) (tgt := 420) (dc kc_X6_apply_0 1 rfl) ?_ rfl rfl rfl <| r_aload_n (dc kc_X6_apply_0 14 rfl) rfl <| r_aload_n (dc kc_X6_apply_0 15 rfl) rfl <| s_iload_n (dc kc_X6_apply_0 16 rfl) rfl <| c_v1r (dc kc_X6_apply_0 17 rfl) cl_X6_74 rfl (Nat.le_of_ble_eq_true rfl) (Nat.zero_le _) (Nat.zero_le _) ?_
    · rfl
    · refine u_look hL hcel (by omega) (by omega) ?_
      refine c_v1 (dc kc_X6_apply_0 18 rfl) cl_X6_71 rfl (Nat.le_of_ble_eq_true rfl) (Nat.zero_le _) (Nat.zero_le _) ?_
      refine u_push hL hr (st := st) (by rw [up_k (by decide), ht]) h59 (by rw [up_j (by decide)]; exact hA) (fun m1 g1 e1 a1 => ?_)
      refine s_goto (tgt := 790) (dc kc_X6_apply_0 19 rfl) rfl <| s_return (dc kc_X6_apply_4 39 rfl) rfl (Nat.zero_le _) (Nat.zero_le _) ?_
      exact fin _ m1 _ st _ (Cg.rf.up (by simp [pQ])) (by rw [up_at]; exact hB.set (by omega) (by omega)) (by rw [up_k (by decide)]) (Nat.le_refl _) ev1_8 g1 e1 a1
  · obtain ⟨h1, -⟩ := tyL_of hty
    refine s_iload_n (dc kc_X6_apply_0 0 rfl) rfl <| s_tabC (k0 := 9) (tgt := 432) (dc kc_X6_apply_0 1 rfl) ?_ rfl rfl rfl <| r_aload_n (dc kc_X6_apply_0 20 rfl) rfl <| r_aload_n (dc kc_X6_apply_0 21 rfl) rfl <| k_i (dc kc_X6_apply_0 22 rfl) rfl <| s_iload_n (dc kc_X6_apply_0 23 rfl) rfl <| b_iadd (dc kc_X6_apply_0 24 rfl) (by first | omega | (simp [up] <;> omega)) (by first | omega | (simp [up] <;> omega)) <| c_v1r (dc kc_X6_apply_0 25 rfl) cl_X6_74 rfl (Nat.le_of_ble_eq_true rfl) (Nat.zero_le _) (Nat.zero_le _) ?_
    · rfl
    · refine u_look hL hcel (by omega) (by omega) ?_
      refine c_v1 (dc kc_X6_apply_0 26 rfl) cl_X6_71 rfl (Nat.le_of_ble_eq_true rfl) (Nat.zero_le _) (Nat.zero_le _) ?_
      refine u_push hL hr (st := st) (by rw [up_k (by decide), ht]) h59 (by rw [up_j (by decide)]; exact hA) (fun m1 g1 e1 a1 => ?_)
      refine s_goto (tgt := 790) (dc kc_X6_apply_0 27 rfl) rfl <| s_return (dc kc_X6_apply_4 39 rfl) rfl (Nat.zero_le _) (Nat.zero_le _) ?_
      exact fin _ m1 _ st _ (Cg.rf.up (by simp [pQ])) (by rw [up_at]; exact hB.set (by omega) (by omega)) (by rw [up_k (by decide)]) (Nat.le_refl _) ev1_9 g1 e1 a1
  · obtain ⟨r2, e2, e3⟩ := tyU_of (x := 0) (y := 0) hty
    subst e2
    subst e3
    obtain ⟨v, vs, e4, hv, hvs⟩ := hT.cons
    subst e4
    have hv := hv.1 rfl
    rw [List.length_cons] at h59
    refine s_iload_n (dc kc_X6_apply_0 0 rfl) rfl <| s_tabC (k0 := 10) (tgt := 446) (dc kc_X6_apply_0 1 rfl) ?_ rfl rfl rfl <| r_aload_n (dc kc_X6_apply_0 28 rfl) rfl <| r_aload_n (dc kc_X6_apply_0 29 rfl) rfl <| r_aload_n (dc kc_X6_apply_0 30 rfl) rfl <| c_v0r (dc kc_X6_apply_0 31 rfl) cl_X6_67 rfl (Nat.le_of_ble_eq_true rfl) (Nat.zero_le _) (Nat.zero_le _) ?_
    · rfl
    · refine u_pop hL hr ht (by omega) hA (fun m1 g1 e1 a1 => ?_)
      have k3 : m1 r 50 3 = mi r 50 3 := g1.at (by simp)
      have k4 : m1 r 50 4 = mi r 50 4 := g1.at (by simp)
      have k16 : ∀ x, m1 g 16 x = mi g 16 x := fun x => g1.at (by simp)
      refine k_b (dc kc_X6_apply_0 32 rfl) rfl <| c_v2r (dc kc_X6_apply_0 33 rfl) cl_X6_78 rfl (Nat.le_of_ble_eq_true rfl) (Nat.zero_le _) (Nat.zero_le _) ?_
      refine u_lookAt hL hcel (by decide) (fun hn => ?_) (fun h0 h6 => ?_)
      · refine c_v1 (dc kc_X6_apply_0 34 rfl) cl_X6_71 rfl (Nat.le_of_ble_eq_true rfl) (Nat.zero_le _) (Nat.zero_le _) ?_
        refine u_push hL hr (st := vs) (by rw [up_k (by decide), e1]) (by omega) (by rw [up_j (by decide)]; exact a1) (fun m2 g2 e2 a2 => ?_)
        refine s_goto (tgt := 790) (dc kc_X6_apply_0 35 rfl) rfl <| s_return (dc kc_X6_apply_4 39 rfl) rfl (Nat.zero_le _) (Nat.zero_le _) ?_
        refine hQ m2 (-1 :: vs) rd (((g1.mono (fun _ _ _ z => by simp [pQ, pV, pRd] at z ⊢; omega)).up (by simp [pQ])).tr (g2.mono (fun _ _ _ z => by simp [pQ, pV, pRd] at z ⊢; omega))) e2 a2 (by rw [g2.at (by simp), up_k (by decide), k3]; exact hB) ⟨tyV0 (by decide), hvs⟩ ?_ (by simp only [List.length_cons]; omega) (Or.inr ⟨?_, by rw [g2.at (by simp), up_at]⟩)
        · rw [sab, sab, if_neg (by decide), if_neg (by decide)]; omega
        · rw [show v = -1 by omega]; rfl
      · rw [k16]
        refine c_v1 (dc kc_X6_apply_0 34 rfl) cl_X6_71 rfl (Nat.le_of_ble_eq_true rfl) (Nat.zero_le _) (Nat.zero_le _) ?_
        refine u_push hL hr (st := vs) (by rw [up_k (by decide), e1]) (by omega) (by rw [up_j (by decide)]; exact a1) (fun m2 g2 e2 a2 => ?_)
        refine s_goto (tgt := 790) (dc kc_X6_apply_0 35 rfl) rfl <| s_return (dc kc_X6_apply_4 39 rfl) rfl (Nat.zero_le _) (Nat.zero_le _) ?_
        exact fin _ m2 _ vs _ ((g1.mono (fun _ _ _ z => by simp [pQ, pV, pRd] at z ⊢; omega)).up (by simp [pQ])) (by rw [up_at, k3]; exact hB.set (by omega) (by omega)) (by rw [up_k (by decide), k4]) (by rw [List.length_cons]; omega) (cel1_c (by omega)) g2 e2 a2
  · obtain ⟨r2, e2, e3⟩ := tyU_of (x := 0) (y := 0) hty
    subst e2
    subst e3
    obtain ⟨v, vs, e4, hv, hvs⟩ := hT.cons
    subst e4
    have hv := hv.1 rfl
    rw [List.length_cons] at h59
    refine s_iload_n (dc kc_X6_apply_0 0 rfl) rfl <| s_tabC (k0 := 11) (tgt := 463) (dc kc_X6_apply_0 1 rfl) ?_ rfl rfl rfl <| r_aload_n (dc kc_X6_apply_0 36 rfl) rfl <| r_aload_n (dc kc_X6_apply_0 37 rfl) rfl <| r_aload_n (dc kc_X6_apply_0 38 rfl) rfl <| c_v0r (dc kc_X6_apply_0 39 rfl) cl_X6_67 rfl (Nat.le_of_ble_eq_true rfl) (Nat.zero_le _) (Nat.zero_le _) ?_
    · rfl
    · refine u_pop hL hr ht (by omega) hA (fun m1 g1 e1 a1 => ?_)
      have k3 : m1 r 50 3 = mi r 50 3 := g1.at (by simp)
      have k4 : m1 r 50 4 = mi r 50 4 := g1.at (by simp)
      have k16 : ∀ x, m1 g 16 x = mi g 16 x := fun x => g1.at (by simp)
      refine k_b (dc kc_X6_apply_1 0 rfl) rfl <| c_v2r (dc kc_X6_apply_1 1 rfl) cl_X6_78 rfl (Nat.le_of_ble_eq_true rfl) (Nat.zero_le _) (Nat.zero_le _) ?_
      refine u_lookAt hL hcel (by decide) (fun hn => ?_) (fun h0 h6 => ?_)
      · refine c_v1 (dc kc_X6_apply_1 2 rfl) cl_X6_71 rfl (Nat.le_of_ble_eq_true rfl) (Nat.zero_le _) (Nat.zero_le _) ?_
        refine u_push hL hr (st := vs) (by rw [up_k (by decide), e1]) (by omega) (by rw [up_j (by decide)]; exact a1) (fun m2 g2 e2 a2 => ?_)
        refine s_goto (tgt := 790) (dc kc_X6_apply_1 3 rfl) rfl <| s_return (dc kc_X6_apply_4 39 rfl) rfl (Nat.zero_le _) (Nat.zero_le _) ?_
        refine hQ m2 (-1 :: vs) rd (((g1.mono (fun _ _ _ z => by simp [pQ, pV, pRd] at z ⊢; omega)).up (by simp [pQ])).tr (g2.mono (fun _ _ _ z => by simp [pQ, pV, pRd] at z ⊢; omega))) e2 a2 (by rw [g2.at (by simp), up_k (by decide), k3]; exact hB) ⟨tyV0 (by decide), hvs⟩ ?_ (by simp only [List.length_cons]; omega) (Or.inr ⟨?_, by rw [g2.at (by simp), up_at]⟩)
        · rw [sab, sab, if_neg (by decide), if_neg (by decide)]; omega
        · rw [show v = -1 by omega]; rfl
      · rw [k16]
        refine c_v1 (dc kc_X6_apply_1 2 rfl) cl_X6_71 rfl (Nat.le_of_ble_eq_true rfl) (Nat.zero_le _) (Nat.zero_le _) ?_
        refine u_push hL hr (st := vs) (by rw [up_k (by decide), e1]) (by omega) (by rw [up_j (by decide)]; exact a1) (fun m2 g2 e2 a2 => ?_)
        refine s_goto (tgt := 790) (dc kc_X6_apply_1 3 rfl) rfl <| s_return (dc kc_X6_apply_4 39 rfl) rfl (Nat.zero_le _) (Nat.zero_le _) ?_
        exact fin _ m2 _ vs _ ((g1.mono (fun _ _ _ z => by simp [pQ, pV, pRd] at z ⊢; omega)).up (by simp [pQ])) (by rw [up_at, k3]; exact hB.set (by omega) (by omega)) (by rw [up_k (by decide), k4]) (by rw [List.length_cons]; omega) (cel1_c (by omega)) g2 e2 a2
  · obtain ⟨r2, e2, e3⟩ := tyU_of (x := 0) (y := 1) hty
    subst e2
    subst e3
    obtain ⟨v, vs, e4, hv, hvs⟩ := hT.cons
    subst e4
    have hv := hv.1 rfl
    rw [List.length_cons] at h59
    refine s_iload_n (dc kc_X6_apply_0 0 rfl) rfl <| s_tabC (k0 := 12) (tgt := 480) (dc kc_X6_apply_0 1 rfl) ?_ rfl rfl rfl <| r_aload_n (dc kc_X6_apply_1 4 rfl) rfl <| r_aload_n (dc kc_X6_apply_1 5 rfl) rfl <| r_aload_n (dc kc_X6_apply_1 6 rfl) rfl <| c_v0r (dc kc_X6_apply_1 7 rfl) cl_X6_67 rfl (Nat.le_of_ble_eq_true rfl) (Nat.zero_le _) (Nat.zero_le _) ?_
    · rfl
    · refine u_pop hL hr ht (by omega) hA (fun m1 g1 e1 a1 => ?_)
      have k3 : m1 r 50 3 = mi r 50 3 := g1.at (by simp)
      have k4 : m1 r 50 4 = mi r 50 4 := g1.at (by simp)
      have k16 : ∀ x, m1 g 16 x = mi g 16 x := fun x => g1.at (by simp)
      refine k_b (dc kc_X6_apply_1 8 rfl) rfl <| c_v2r (dc kc_X6_apply_1 9 rfl) cl_X6_78 rfl (Nat.le_of_ble_eq_true rfl) (Nat.zero_le _) (Nat.zero_le _) ?_
      refine u_lookAt hL hcel (by decide) (fun hn => ?_) (fun h0 h6 => ?_)
      · refine c_v1 (dc kc_X6_apply_1 10 rfl) cl_X6_71 rfl (Nat.le_of_ble_eq_true rfl) (Nat.zero_le _) (Nat.zero_le _) ?_
        refine u_push hL hr (st := vs) (by rw [up_k (by decide), e1]) (by omega) (by rw [up_j (by decide)]; exact a1) (fun m2 g2 e2 a2 => ?_)
        refine s_goto (tgt := 790) (dc kc_X6_apply_1 11 rfl) rfl <| s_return (dc kc_X6_apply_4 39 rfl) rfl (Nat.zero_le _) (Nat.zero_le _) ?_
        refine hQ m2 (-1 :: vs) rd (((g1.mono (fun _ _ _ z => by simp [pQ, pV, pRd] at z ⊢; omega)).up (by simp [pQ])).tr (g2.mono (fun _ _ _ z => by simp [pQ, pV, pRd] at z ⊢; omega))) e2 a2 (by rw [g2.at (by simp), up_k (by decide), k3]; exact hB) ⟨tyV1, hvs⟩ ?_ (by simp only [List.length_cons]; omega) (Or.inr ⟨?_, by rw [g2.at (by simp), up_at]⟩)
        · rw [sab, sab, if_pos rfl, if_neg (by decide)]; omega
        · rw [show v = -1 by omega]; rfl
      · rw [k16]
        refine c_v1 (dc kc_X6_apply_1 10 rfl) cl_X6_71 rfl (Nat.le_of_ble_eq_true rfl) (Nat.zero_le _) (Nat.zero_le _) ?_
        refine u_push hL hr (st := vs) (by rw [up_k (by decide), e1]) (by omega) (by rw [up_j (by decide)]; exact a1) (fun m2 g2 e2 a2 => ?_)
        refine s_goto (tgt := 790) (dc kc_X6_apply_1 11 rfl) rfl <| s_return (dc kc_X6_apply_4 39 rfl) rfl (Nat.zero_le _) (Nat.zero_le _) ?_
        exact fin _ m2 _ vs _ ((g1.mono (fun _ _ _ z => by simp [pQ, pV, pRd] at z ⊢; omega)).up (by simp [pQ])) (by rw [up_at, k3]; exact hB.set (by omega) (by omega)) (by rw [up_k (by decide), k4]) (by rw [List.length_cons]; omega) (cel1_c (by omega)) g2 e2 a2
  · obtain ⟨h1, -⟩ := tyL_of hty
    refine s_iload_n (dc kc_X6_apply_0 0 rfl) rfl <| s_tabC (k0 := 19) (tgt := 497) (dc kc_X6_apply_0 1 rfl) ?_ rfl rfl rfl <| r_aload_n (dc kc_X6_apply_1 12 rfl) rfl <| s_iload_n (dc kc_X6_apply_1 13 rfl) rfl <| c_v1 (dc kc_X6_apply_1 14 rfl) cl_X6_56 rfl (Nat.le_of_ble_eq_true rfl) (Nat.zero_le _) (Nat.zero_le _) ?_
    · rfl
    · refine u_follow hL hr hcel hc h1.1 (by omega) hB (fun m1 g1 e6 e7 e8 hAw hBw => ?_)
      have k2 : m1 r 50 2 = st.length := by rw [g1.at (by simp [pV]), ht]
      have k4 : m1 r 50 4 = mi r 50 4 := g1.at (by simp [pV])
      have k52 : m1 r 52 = mi r 52 := g1.row (fun k => by simp [pV])
      have gc : Cg (pQ r) mi m1 := g1.mono (fun _ _ _ z => by simp [pQ, pV, pRd] at z ⊢; omega)
      have ecl : clG m1 g = clG mi g := by unfold clG; rw [g1.row (fun k => by simp [pV])]
      have hwr := way_rg hc h1.1 (by omega : a < 3)
      have hwl := way_len (clG mi g) a
      refine r_aload_n (dc kc_X6_apply_1 15 rfl) rfl <| r_aload_n (dc kc_X6_apply_1 16 rfl) rfl <| s_getI (dc kc_X6_apply_1 17 rfl) fl_X6_32 <| c_v1 (dc kc_X6_apply_1 18 rfl) cl_X6_71 rfl (Nat.le_of_ble_eq_true rfl) (Nat.zero_le _) (Nat.zero_le _) ?_
      refine u_push hL hr (st := st) k2 h59 (by rw [k52]; exact hA) (fun m2 g2 e2 a2 => ?_)
      rw [e6] at e2 a2
      refine s_goto (tgt := 790) (dc kc_X6_apply_1 19 rfl) rfl <| s_return (dc kc_X6_apply_4 39 rfl) rfl (Nat.zero_le _) (Nat.zero_le _) ?_
      exact fin m1 m2 _ st _ gc hBw k4 (Nat.le_refl _) ev1_19 g2 e2 a2
  · obtain ⟨h1, -⟩ := tyL_of hty
    refine s_iload_n (dc kc_X6_apply_0 0 rfl) rfl <| s_tabC (k0 := 20) (tgt := 513) (dc kc_X6_apply_0 1 rfl) ?_ rfl rfl rfl <| r_aload_n (dc kc_X6_apply_1 20 rfl) rfl <| s_iload_n (dc kc_X6_apply_1 21 rfl) rfl <| c_v1 (dc kc_X6_apply_1 22 rfl) cl_X6_56 rfl (Nat.le_of_ble_eq_true rfl) (Nat.zero_le _) (Nat.zero_le _) ?_
    · rfl
    · refine u_follow hL hr hcel hc h1.1 (by omega) hB (fun m1 g1 e6 e7 e8 hAw hBw => ?_)
      have k2 : m1 r 50 2 = st.length := by rw [g1.at (by simp [pV]), ht]
      have k4 : m1 r 50 4 = mi r 50 4 := g1.at (by simp [pV])
      have k52 : m1 r 52 = mi r 52 := g1.row (fun k => by simp [pV])
      have gc : Cg (pQ r) mi m1 := g1.mono (fun _ _ _ z => by simp [pQ, pV, pRd] at z ⊢; omega)
      have ecl : clG m1 g = clG mi g := by unfold clG; rw [g1.row (fun k => by simp [pV])]
      have hwr := way_rg hc h1.1 (by omega : a < 3)
      have hwl := way_len (clG mi g) a
      refine r_aload_n (dc kc_X6_apply_1 23 rfl) rfl <| r_aload_n (dc kc_X6_apply_1 24 rfl) rfl <| c_v0r (dc kc_X6_apply_1 25 rfl) cl_X6_82 rfl (Nat.le_of_ble_eq_true rfl) (Nat.zero_le _) (Nat.zero_le _) ?_
      refine u_totalOfWay hL hr hcel (by rw [ecl]; exact hc) hwr hwl e6 e7 hAw hBw (fun m2 g2 hB2 => ?_)
      rw [ecl]
      refine c_v1 (dc kc_X6_apply_1 26 rfl) cl_X6_71 rfl (Nat.le_of_ble_eq_true rfl) (Nat.zero_le _) (Nat.zero_le _) ?_
      refine u_push hL hr (st := st) (by rw [g2.at (by simp [pRd]), k2]) h59 (by rw [g2.row (fun k => by simp [pRd]), k52]; exact hA) (fun m3 g3 e3 a3 => ?_)
      refine s_goto (tgt := 790) (dc kc_X6_apply_1 27 rfl) rfl <| s_return (dc kc_X6_apply_4 39 rfl) rfl (Nat.zero_le _) (Nat.zero_le _) ?_
      refine fin m2 m3 _ st _ (gc.tr (g2.mono (fun _ _ _ z => by simp [pQ, pV, pRd] at z ⊢; omega))) (hB2.mem (fun x x0 x1 => ?_)) (by rw [g2.at (by simp [pRd]), k4]) (Nat.le_refl _) ev1_20 g3 e3 a3
      unfold askW askN
      simp
      constructor
      · rintro (⟨y, p, q⟩ | h | ⟨y, p, q⟩ | h)
        · exact Or.inr (Or.inl ⟨y, p, Or.inr q.symm⟩)
        · exact Or.inl h
        · exact Or.inr (Or.inl ⟨y, p, Or.inl q⟩)
        · exact Or.inr (Or.inr h)
      · rintro (h | ⟨y, p, q | q⟩ | h)
        · exact Or.inr (Or.inl h)
        · exact Or.inr (Or.inr (Or.inl ⟨y, p, q⟩))
        · exact Or.inl ⟨y, p, q.symm⟩
        · exact Or.inr (Or.inr (Or.inr h))
  · obtain ⟨h1, -⟩ := tyL_of hty
    refine s_iload_n (dc kc_X6_apply_0 0 rfl) rfl <| s_tabC (k0 := 0) (tgt := 529) (dc kc_X6_apply_0 1 rfl) ?_ rfl rfl rfl <| r_aload_n (dc kc_X6_apply_1 28 rfl) rfl <| s_iload_n (dc kc_X6_apply_1 29 rfl) rfl <| c_v1 (dc kc_X6_apply_1 30 rfl) cl_X6_56 rfl (Nat.le_of_ble_eq_true rfl) (Nat.zero_le _) (Nat.zero_le _) ?_
    · rfl
    · refine u_follow hL hr hcel hc h1.1 (by omega) hB (fun m1 g1 e6 e7 e8 hAw hBw => ?_)
      have k2 : m1 r 50 2 = st.length := by rw [g1.at (by simp [pV]), ht]
      have k4 : m1 r 50 4 = mi r 50 4 := g1.at (by simp [pV])
      have k52 : m1 r 52 = mi r 52 := g1.row (fun k => by simp [pV])
      have gc : Cg (pQ r) mi m1 := g1.mono (fun _ _ _ z => by simp [pQ, pV, pRd] at z ⊢; omega)
      have ecl : clG m1 g = clG mi g := by unfold clG; rw [g1.row (fun k => by simp [pV])]
      have hwr := way_rg hc h1.1 (by omega : a < 3)
      have hwl := way_len (clG mi g) a
      refine r_aload_n (dc kc_X6_apply_1 31 rfl) rfl <| r_aload_n (dc kc_X6_apply_1 32 rfl) rfl <| s_getZ (dc kc_X6_apply_1 33 rfl) fl_X6_38 <| s_if_eq (tgt := 546) (dc kc_X6_apply_1 34 rfl) rfl (fun c539 => (k_i (dc kc_X6_apply_1 37 rfl) rfl <| ?_)) (fun c539 => (k_i (dc kc_X6_apply_1 35 rfl) rfl <| s_goto (tgt := 547) (dc kc_X6_apply_1 36 rfl) rfl <| ?_))
      · refine c_v1 (dc kc_X6_apply_1 38 rfl) cl_X6_71 rfl (Nat.le_of_ble_eq_true rfl) (Nat.zero_le _) (Nat.zero_le _) ?_
        refine u_push hL hr (st := st) k2 h59 (by rw [k52]; exact hA) (fun m2 g2 e2 a2 => ?_)
        refine s_goto (tgt := 790) (dc kc_X6_apply_1 39 rfl) rfl <| s_return (dc kc_X6_apply_4 39 rfl) rfl (Nat.zero_le _) (Nat.zero_le _) ?_
        rw [e8] at c539
        exact fin m1 m2 _ st _ gc hBw k4 (Nat.le_refl _) (by rw [ev1_0, bi_f (bi_eq0.mp c539)]) g2 e2 a2
      · refine c_v1 (dc kc_X6_apply_1 38 rfl) cl_X6_71 rfl (Nat.le_of_ble_eq_true rfl) (Nat.zero_le _) (Nat.zero_le _) ?_
        refine u_push hL hr (st := st) k2 h59 (by rw [k52]; exact hA) (fun m2 g2 e2 a2 => ?_)
        refine s_goto (tgt := 790) (dc kc_X6_apply_1 39 rfl) rfl <| s_return (dc kc_X6_apply_4 39 rfl) rfl (Nat.zero_le _) (Nat.zero_le _) ?_
        rw [e8] at c539
        exact fin m1 m2 _ st _ gc hBw k4 (Nat.le_refl _) (by rw [ev1_0, bi_t (bi_ne0.mp c539)]) g2 e2 a2
  · obtain ⟨h1, -⟩ := tyL_of hty
    refine s_iload_n (dc kc_X6_apply_0 0 rfl) rfl <| s_tabC (k0 := 1) (tgt := 553) (dc kc_X6_apply_0 1 rfl) ?_ rfl rfl rfl <| r_aload_n (dc kc_X6_apply_2 0 rfl) rfl <| s_iload_n (dc kc_X6_apply_2 1 rfl) rfl <| c_v1 (dc kc_X6_apply_2 2 rfl) cl_X6_56 rfl (Nat.le_of_ble_eq_true rfl) (Nat.zero_le _) (Nat.zero_le _) ?_
    · rfl
    · refine u_follow hL hr hcel hc h1.1 (by omega) hB (fun m1 g1 e6 e7 e8 hAw hBw => ?_)
      have k2 : m1 r 50 2 = st.length := by rw [g1.at (by simp [pV]), ht]
      have k4 : m1 r 50 4 = mi r 50 4 := g1.at (by simp [pV])
      have k52 : m1 r 52 = mi r 52 := g1.row (fun k => by simp [pV])
      have gc : Cg (pQ r) mi m1 := g1.mono (fun _ _ _ z => by simp [pQ, pV, pRd] at z ⊢; omega)
      have ecl : clG m1 g = clG mi g := by unfold clG; rw [g1.row (fun k => by simp [pV])]
      have hwr := way_rg hc h1.1 (by omega : a < 3)
      have hwl := way_len (clG mi g) a
      refine r_aload_n (dc kc_X6_apply_2 3 rfl) rfl <| r_aload_n (dc kc_X6_apply_2 4 rfl) rfl <| c_v0r (dc kc_X6_apply_2 5 rfl) cl_X6_85 rfl (Nat.le_of_ble_eq_true rfl) (Nat.zero_le _) (Nat.zero_le _) ?_
      refine u_isWayTwin hL hr hcel (by rw [ecl]; exact hc) hwr hwl e6 e7 hAw hBw (fun m2 g2 hB2 => ?_)
      rw [ecl]
      have hB3 : Bm (m2 r 50 3) (askW (clG mi g) a 1 0 ++ rd) := (hB2.mem (fun x x0 x1 => by
          unfold askW askN
          simp
          constructor
          · rintro (⟨y, p, q⟩ | h | ⟨y, p, q⟩ | h)
            · exact Or.inr (Or.inl ⟨y, p, Or.inr q.symm⟩)
            · exact Or.inl h
            · exact Or.inr (Or.inl ⟨y, p, Or.inl q⟩)
            · exact Or.inr (Or.inr h)
          · rintro (h | ⟨y, p, q | q⟩ | h)
            · exact Or.inr (Or.inl h)
            · exact Or.inr (Or.inr (Or.inl ⟨y, p, q⟩))
            · exact Or.inl ⟨y, p, q.symm⟩
            · exact Or.inr (Or.inr (Or.inr h))))
      refine s_if_eq (tgt := 570) (dc kc_X6_apply_2 6 rfl) rfl (fun c563 => (k_i (dc kc_X6_apply_2 9 rfl) rfl <| ?_)) (fun c563 => (k_i (dc kc_X6_apply_2 7 rfl) rfl <| s_goto (tgt := 571) (dc kc_X6_apply_2 8 rfl) rfl <| ?_))
      · refine c_v1 (dc kc_X6_apply_2 10 rfl) cl_X6_71 rfl (Nat.le_of_ble_eq_true rfl) (Nat.zero_le _) (Nat.zero_le _) ?_
        refine u_push hL hr (st := st) (by rw [g2.at (by simp [pRd]), k2]) h59 (by rw [g2.row (fun k => by simp [pRd]), k52]; exact hA) (fun m3 g3 e3 a3 => ?_)
        refine s_goto (tgt := 790) (dc kc_X6_apply_2 11 rfl) rfl <| s_return (dc kc_X6_apply_4 39 rfl) rfl (Nat.zero_le _) (Nat.zero_le _) ?_
        exact fin m2 m3 _ st _ (gc.tr (g2.mono (fun _ _ _ z => by simp [pQ, pV, pRd] at z ⊢; omega))) hB3 (by rw [g2.at (by simp [pRd]), k4]) (Nat.le_refl _) (by rw [ev1_1, bi_f (bi_eq0.mp c563)]) g3 e3 a3
      · refine c_v1 (dc kc_X6_apply_2 10 rfl) cl_X6_71 rfl (Nat.le_of_ble_eq_true rfl) (Nat.zero_le _) (Nat.zero_le _) ?_
        refine u_push hL hr (st := st) (by rw [g2.at (by simp [pRd]), k2]) h59 (by rw [g2.row (fun k => by simp [pRd]), k52]; exact hA) (fun m3 g3 e3 a3 => ?_)
        refine s_goto (tgt := 790) (dc kc_X6_apply_2 11 rfl) rfl <| s_return (dc kc_X6_apply_4 39 rfl) rfl (Nat.zero_le _) (Nat.zero_le _) ?_
        exact fin m2 m3 _ st _ (gc.tr (g2.mono (fun _ _ _ z => by simp [pQ, pV, pRd] at z ⊢; omega))) hB3 (by rw [g2.at (by simp [pRd]), k4]) (Nat.le_refl _) (by rw [ev1_1, bi_t (bi_ne0.mp c563)]) g3 e3 a3
  · obtain ⟨h1, -⟩ := tyL_of hty
    refine s_iload_n (dc kc_X6_apply_0 0 rfl) rfl <| s_tabC (k0 := 2) (tgt := 577) (dc kc_X6_apply_0 1 rfl) ?_ rfl rfl rfl <| r_aload_n (dc kc_X6_apply_2 12 rfl) rfl <| s_iload_n (dc kc_X6_apply_2 13 rfl) rfl <| c_v1 (dc kc_X6_apply_2 14 rfl) cl_X6_56 rfl (Nat.le_of_ble_eq_true rfl) (Nat.zero_le _) (Nat.zero_le _) ?_
    · rfl
    · refine u_follow hL hr hcel hc h1.1 (by omega) hB (fun m1 g1 e6 e7 e8 hAw hBw => ?_)
      have k2 : m1 r 50 2 = st.length := by rw [g1.at (by simp [pV]), ht]
      have k4 : m1 r 50 4 = mi r 50 4 := g1.at (by simp [pV])
      have k52 : m1 r 52 = mi r 52 := g1.row (fun k => by simp [pV])
      have gc : Cg (pQ r) mi m1 := g1.mono (fun _ _ _ z => by simp [pQ, pV, pRd] at z ⊢; omega)
      have ecl : clG m1 g = clG mi g := by unfold clG; rw [g1.row (fun k => by simp [pV])]
      have hwr := way_rg hc h1.1 (by omega : a < 3)
      have hwl := way_len (clG mi g) a
      refine r_aload_n (dc kc_X6_apply_2 15 rfl) rfl <| r_aload_n (dc kc_X6_apply_2 16 rfl) rfl <| c_v0r (dc kc_X6_apply_2 17 rfl) cl_X6_89 rfl (Nat.le_of_ble_eq_true rfl) (Nat.zero_le _) (Nat.zero_le _) ?_
      refine u_isWayRising hL hr hcel (by rw [ecl]; exact hc) hwr hwl e6 e7 hAw hBw (fun m2 g2 hB2 => ?_)
      rw [ecl]
      have hB3 : Bm (m2 r 50 3) (askW (clG mi g) a 0 1 ++ rd) := (hB2.mem (fun x x0 x1 => by
          unfold askW askN
          simp
          constructor
          · rintro (⟨y, p, q⟩ | h | ⟨y, p, q⟩ | h)
            · exact Or.inr (Or.inl ⟨y, p, Or.inr q.symm⟩)
            · exact Or.inl h
            · exact Or.inr (Or.inl ⟨y, p, Or.inl q⟩)
            · exact Or.inr (Or.inr h)
          · rintro (h | ⟨y, p, q | q⟩ | h)
            · exact Or.inr (Or.inl h)
            · exact Or.inr (Or.inr (Or.inl ⟨y, p, q⟩))
            · exact Or.inl ⟨y, p, q.symm⟩
            · exact Or.inr (Or.inr (Or.inr h))))
      refine s_if_eq (tgt := 594) (dc kc_X6_apply_2 18 rfl) rfl (fun c587 => (k_i (dc kc_X6_apply_2 21 rfl) rfl <| ?_)) (fun c587 => (k_i (dc kc_X6_apply_2 19 rfl) rfl <| s_goto (tgt := 595) (dc kc_X6_apply_2 20 rfl) rfl <| ?_))
      · refine c_v1 (dc kc_X6_apply_2 22 rfl) cl_X6_71 rfl (Nat.le_of_ble_eq_true rfl) (Nat.zero_le _) (Nat.zero_le _) ?_
        refine u_push hL hr (st := st) (by rw [g2.at (by simp [pRd]), k2]) h59 (by rw [g2.row (fun k => by simp [pRd]), k52]; exact hA) (fun m3 g3 e3 a3 => ?_)
        refine s_goto (tgt := 790) (dc kc_X6_apply_2 23 rfl) rfl <| s_return (dc kc_X6_apply_4 39 rfl) rfl (Nat.zero_le _) (Nat.zero_le _) ?_
        exact fin m2 m3 _ st _ (gc.tr (g2.mono (fun _ _ _ z => by simp [pQ, pV, pRd] at z ⊢; omega))) hB3 (by rw [g2.at (by simp [pRd]), k4]) (Nat.le_refl _) (by rw [ev1_2, bi_f (bi_eq0.mp c587)]) g3 e3 a3
      · refine c_v1 (dc kc_X6_apply_2 22 rfl) cl_X6_71 rfl (Nat.le_of_ble_eq_true rfl) (Nat.zero_le _) (Nat.zero_le _) ?_
        refine u_push hL hr (st := st) (by rw [g2.at (by simp [pRd]), k2]) h59 (by rw [g2.row (fun k => by simp [pRd]), k52]; exact hA) (fun m3 g3 e3 a3 => ?_)
        refine s_goto (tgt := 790) (dc kc_X6_apply_2 23 rfl) rfl <| s_return (dc kc_X6_apply_4 39 rfl) rfl (Nat.zero_le _) (Nat.zero_le _) ?_
        exact fin m2 m3 _ st _ (gc.tr (g2.mono (fun _ _ _ z => by simp [pQ, pV, pRd] at z ⊢; omega))) hB3 (by rw [g2.at (by simp [pRd]), k4]) (Nat.le_refl _) (by rw [ev1_2, bi_t (bi_ne0.mp c587)]) g3 e3 a3
  · obtain ⟨h1, -⟩ := tyL_of hty
    refine s_iload_n (dc kc_X6_apply_0 0 rfl) rfl <| s_tabC (k0 := 25) (tgt := 601) (dc kc_X6_apply_0 1 rfl) ?_ rfl rfl rfl <| r_aload_n (dc kc_X6_apply_2 24 rfl) rfl <| s_iload_n (dc kc_X6_apply_2 25 rfl) rfl <| c_v1 (dc kc_X6_apply_2 26 rfl) cl_X6_56 rfl (Nat.le_of_ble_eq_true rfl) (Nat.zero_le _) (Nat.zero_le _) ?_
    · rfl
    · refine u_follow hL hr hcel hc h1.1 (by omega) hB (fun m1 g1 e6 e7 e8 hAw hBw => ?_)
      have k2 : m1 r 50 2 = st.length := by rw [g1.at (by simp [pV]), ht]
      have k4 : m1 r 50 4 = mi r 50 4 := g1.at (by simp [pV])
      have k52 : m1 r 52 = mi r 52 := g1.row (fun k => by simp [pV])
      have gc : Cg (pQ r) mi m1 := g1.mono (fun _ _ _ z => by simp [pQ, pV, pRd] at z ⊢; omega)
      have ecl : clG m1 g = clG mi g := by unfold clG; rw [g1.row (fun k => by simp [pV])]
      have hwr := way_rg hc h1.1 (by omega : a < 3)
      have hwl := way_len (clG mi g) a
      refine r_aload_n (dc kc_X6_apply_2 27 rfl) rfl <| r_aload_n (dc kc_X6_apply_2 28 rfl) rfl <| s_getI (dc kc_X6_apply_2 29 rfl) fl_X6_35 <| c_v1 (dc kc_X6_apply_2 30 rfl) cl_X6_71 rfl (Nat.le_of_ble_eq_true rfl) (Nat.zero_le _) (Nat.zero_le _) ?_
      refine u_push hL hr (st := st) k2 h59 (by rw [k52]; exact hA) (fun m2 g2 e2 a2 => ?_)
      rw [e7] at e2 a2
      refine s_goto (tgt := 790) (dc kc_X6_apply_2 31 rfl) rfl <| s_return (dc kc_X6_apply_4 39 rfl) rfl (Nat.zero_le _) (Nat.zero_le _) ?_
      exact fin m1 m2 _ st _ gc hBw k4 (Nat.le_refl _) ev1_25 g2 e2 a2
  · obtain ⟨h1, r2, e2, e3⟩ : (0 ≤ a ∧ a ≤ 2) ∧ ∃ r2, ts = 3 :: r2 ∧ ts' = 2 :: r2 := by
      cases h2 : tyL 2 a 2 ts with
      | none => rw [show ty1 3 a ts = (tyL 2 a 2 ts).bind fun _ => tyU 3 2 ts from rfl, h2] at hty; cases hty
      | some z =>
        rw [show ty1 3 a ts = (tyL 2 a 2 ts).bind fun _ => tyU 3 2 ts from rfl, h2] at hty
        exact ⟨(tyL_of h2).1, tyU_of (show tyU 3 2 ts = some ts' from hty)⟩
    subst e2
    subst e3
    obtain ⟨v, vs, e4, hv, hvs⟩ := hT.cons
    subst e4
    rw [List.length_cons] at h59
    refine s_iload_n (dc kc_X6_apply_0 0 rfl) rfl <| s_tabC (k0 := 3) (tgt := 617) (dc kc_X6_apply_0 1 rfl) ?_ rfl rfl rfl <| r_aload_n (dc kc_X6_apply_2 32 rfl) rfl <| s_iload_n (dc kc_X6_apply_2 33 rfl) rfl <| c_v1 (dc kc_X6_apply_2 34 rfl) cl_X6_56 rfl (Nat.le_of_ble_eq_true rfl) (Nat.zero_le _) (Nat.zero_le _) ?_
    · rfl
    · refine u_follow hL hr hcel hc h1.1 (by omega) hB (fun m1 g1 e6 e7 e8 hAw hBw => ?_)
      have k2 : m1 r 50 2 = ((v :: vs).length : Int) := by rw [g1.at (by simp [pV]), ht]
      have k4 : m1 r 50 4 = mi r 50 4 := g1.at (by simp [pV])
      have k52 : m1 r 52 = mi r 52 := g1.row (fun k => by simp [pV])
      have gc : Cg (pQ r) mi m1 := g1.mono (fun _ _ _ z => by simp [pQ, pV, pRd] at z ⊢; omega)
      refine r_aload_n (dc kc_X6_apply_2 35 rfl) rfl <| r_aload_n (dc kc_X6_apply_2 36 rfl) rfl <| c_v0r (dc kc_X6_apply_2 37 rfl) cl_X6_67 rfl (Nat.le_of_ble_eq_true rfl) (Nat.zero_le _) (Nat.zero_le _) ?_
      refine u_pop hL hr k2 (by omega) (by rw [k52]; exact hA) (fun m2 g2 e2 a2 => ?_)
      have e72 : m2 r 50 7 = msk (way (clG mi g) a) := by rw [g2.at (by simp), e7]
      refine r_aload_n (dc kc_X6_apply_2 38 rfl) rfl <| s_getI (dc kc_X6_apply_2 39 rfl) fl_X6_35 <| s_iand (dc kc_X6_apply_3 0 rfl) <| s_if_ne (tgt := 639) (dc kc_X6_apply_3 1 rfl) rfl (fun c632 => (k_i (dc kc_X6_apply_3 4 rfl) rfl <| ?_)) (fun c632 => (k_i (dc kc_X6_apply_3 2 rfl) rfl <| s_goto (tgt := 640) (dc kc_X6_apply_3 3 rfl) rfl <| ?_))
      · rw [e72] at c632
        refine c_v1 (dc kc_X6_apply_3 5 rfl) cl_X6_71 rfl (Nat.le_of_ble_eq_true rfl) (Nat.zero_le _) (Nat.zero_le _) ?_
        refine u_push hL hr (st := vs) e2 (by omega) a2 (fun m3 g3 e3 a3 => ?_)
        refine s_goto (tgt := 790) (dc kc_X6_apply_3 6 rfl) rfl <| s_return (dc kc_X6_apply_4 39 rfl) rfl (Nat.zero_le _) (Nat.zero_le _) ?_
        exact fin m2 m3 _ vs _ (gc.tr (g2.mono (fun _ _ _ z => by simp [pQ, pV, pRd] at z ⊢; omega))) (by rw [g2.at (by simp)]; exact hBw) (by rw [g2.at (by simp), k4]) (by rw [List.length_cons]; omega) (by rw [ev1_3, bi_f c632]) g3 e3 a3
      · rw [e72] at c632
        refine c_v1 (dc kc_X6_apply_3 5 rfl) cl_X6_71 rfl (Nat.le_of_ble_eq_true rfl) (Nat.zero_le _) (Nat.zero_le _) ?_
        refine u_push hL hr (st := vs) e2 (by omega) a2 (fun m3 g3 e3 a3 => ?_)
        refine s_goto (tgt := 790) (dc kc_X6_apply_3 6 rfl) rfl <| s_return (dc kc_X6_apply_4 39 rfl) rfl (Nat.zero_le _) (Nat.zero_le _) ?_
        exact fin m2 m3 _ vs _ (gc.tr (g2.mono (fun _ _ _ z => by simp [pQ, pV, pRd] at z ⊢; omega))) (by rw [g2.at (by simp)]; exact hBw) (by rw [g2.at (by simp), k4]) (by rw [List.length_cons]; omega) (by rw [ev1_3, bi_t c632]) g3 e3 a3
  · obtain ⟨r2, e2, e3⟩ := tyU_of (x := 2) (y := 2) hty
    subst e2
    subst e3
    obtain ⟨v, vs, e4, hv, hvs⟩ := hT.cons
    subst e4
    have hv := hv.2 rfl
    rw [List.length_cons] at h59
    refine s_iload_n (dc kc_X6_apply_0 0 rfl) rfl <| s_tabC (k0 := 18) (tgt := 646) (dc kc_X6_apply_0 1 rfl) ?_ rfl rfl rfl <| r_aload_n (dc kc_X6_apply_3 7 rfl) rfl <| k_i (dc kc_X6_apply_3 8 rfl) rfl <| r_aload_n (dc kc_X6_apply_3 9 rfl) rfl <| c_v0r (dc kc_X6_apply_3 10 rfl) cl_X6_67 rfl (Nat.le_of_ble_eq_true rfl) (Nat.zero_le _) (Nat.zero_le _) ?_
    · rfl
    · refine u_pop hL hr ht (by omega) hA (fun m1 g1 e1 a1 => ?_)
      refine b_isub (dc kc_X6_apply_3 11 rfl) (by first | omega | (simp [up] <;> omega)) (by first | omega | (simp [up] <;> omega)) <| c_v1 (dc kc_X6_apply_3 12 rfl) cl_X6_71 rfl (Nat.le_of_ble_eq_true rfl) (Nat.zero_le _) (Nat.zero_le _) ?_
      refine u_push hL hr (st := vs) e1 (by omega) a1 (fun m2 g2 e2 a2 => ?_)
      refine s_goto (tgt := 790) (dc kc_X6_apply_3 13 rfl) rfl <| s_return (dc kc_X6_apply_4 39 rfl) rfl (Nat.zero_le _) (Nat.zero_le _) ?_
      exact fin m1 m2 _ vs _ (g1.mono (fun _ _ _ z => by simp [pQ, pV, pRd] at z ⊢; omega)) (by rw [g1.at (by simp)]; exact hB) (g1.at (by simp)) (by rw [List.length_cons]; omega) ev1_18 g2 e2 a2
  · obtain ⟨r2, e2, e3⟩ := tyD_of (x := 1) (y := 1) hty
    subst e2
    subst e3
    obtain ⟨v, vs, e4, hv, hvs⟩ := hT.cons
    subst e4
    obtain ⟨u, us, e5, hu, hus⟩ := hvs.cons
    subst e5
    have hnn := sab_nn r2 us
    have hsb := hsab
    rw [sab, sab] at hsb
    try simp only [if_true, ↓reduceIte] at hsb
    have bu : -2000000 ≤ u ∧ u ≤ 2000000 := by first | (have := hu.2 rfl; omega) | omega
    have bv : -2000000 ≤ v ∧ v ≤ 2000000 := by first | (have := hv.2 rfl; omega) | omega
    rw [List.length_cons, List.length_cons] at h59
    refine s_iload_n (dc kc_X6_apply_0 0 rfl) rfl <| s_tabC (k0 := 75) (tgt := 659) (dc kc_X6_apply_0 1 rfl) ?_ rfl rfl rfl <| r_aload_n (dc kc_X6_apply_3 14 rfl) rfl <| r_aload_n (dc kc_X6_apply_3 15 rfl) rfl <| c_v0r (dc kc_X6_apply_3 16 rfl) cl_X6_67 rfl (Nat.le_of_ble_eq_true rfl) (Nat.zero_le _) (Nat.zero_le _) ?_
    · rfl
    · refine u_pop hL hr ht (by rw [List.length_cons]; omega) hA (fun m1 g1 e1 a1 => ?_)
      refine r_aload_n (dc kc_X6_apply_3 17 rfl) rfl <| c_v0r (dc kc_X6_apply_3 18 rfl) cl_X6_67 rfl (Nat.le_of_ble_eq_true rfl) (Nat.zero_le _) (Nat.zero_le _) ?_
      refine u_pop hL hr e1 (by omega) a1 (fun m2 g2 e2 a2 => ?_)
      refine b_iadd (dc kc_X6_apply_3 19 rfl) (by first | omega | (simp [up] <;> omega)) (by first | omega | (simp [up] <;> omega)) <| c_v1 (dc kc_X6_apply_3 20 rfl) cl_X6_71 rfl (Nat.le_of_ble_eq_true rfl) (Nat.zero_le _) (Nat.zero_le _) ?_
      refine u_push hL hr (st := us) e2 (by omega) a2 (fun m3 g3 e3 a3 => ?_)
      refine s_goto (tgt := 790) (dc kc_X6_apply_3 21 rfl) rfl <| s_return (dc kc_X6_apply_4 39 rfl) rfl (Nat.zero_le _) (Nat.zero_le _) ?_
      exact fin m2 m3 _ us _ ((g1.mono (fun _ _ _ z => by simp [pQ, pV, pRd] at z ⊢; omega)).tr (g2.mono (fun _ _ _ z => by simp [pQ, pV, pRd] at z ⊢; omega))) (by rw [g2.at (by simp), g1.at (by simp)]; exact hB) (by rw [g2.at (by simp), g1.at (by simp)]) (by rw [List.length_cons, List.length_cons]; omega) (by rw [ev1_75, Int.add_comm]; rfl) g3 e3 a3
  · obtain ⟨r2, e2, e3⟩ := tyD_of (x := 1) (y := 1) hty
    subst e2
    subst e3
    obtain ⟨v, vs, e4, hv, hvs⟩ := hT.cons
    subst e4
    obtain ⟨u, us, e5, hu, hus⟩ := hvs.cons
    subst e5
    have hnn := sab_nn r2 us
    have hsb := hsab
    rw [sab, sab] at hsb
    try simp only [if_true, ↓reduceIte] at hsb
    have bu : -2000000 ≤ u ∧ u ≤ 2000000 := by first | (have := hu.2 rfl; omega) | omega
    have bv : -2000000 ≤ v ∧ v ≤ 2000000 := by first | (have := hv.2 rfl; omega) | omega
    rw [List.length_cons, List.length_cons] at h59
    refine s_iload_n (dc kc_X6_apply_0 0 rfl) rfl <| s_tabC (k0 := 77) (tgt := 675) (dc kc_X6_apply_0 1 rfl) ?_ rfl rfl rfl <| r_aload_n (dc kc_X6_apply_3 22 rfl) rfl <| r_aload_n (dc kc_X6_apply_3 23 rfl) rfl <| c_v0r (dc kc_X6_apply_3 24 rfl) cl_X6_67 rfl (Nat.le_of_ble_eq_true rfl) (Nat.zero_le _) (Nat.zero_le _) ?_
    · rfl
    · refine u_pop hL hr ht (by rw [List.length_cons]; omega) hA (fun m1 g1 e1 a1 => ?_)
      refine b_ineg (dc kc_X6_apply_3 25 rfl) (by first | omega | (simp [up] <;> omega)) (by first | omega | (simp [up] <;> omega)) <| r_aload_n (dc kc_X6_apply_3 26 rfl) rfl <| c_v0r (dc kc_X6_apply_3 27 rfl) cl_X6_67 rfl (Nat.le_of_ble_eq_true rfl) (Nat.zero_le _) (Nat.zero_le _) ?_
      refine u_pop hL hr e1 (by omega) a1 (fun m2 g2 e2 a2 => ?_)
      refine b_iadd (dc kc_X6_apply_3 28 rfl) (by first | omega | (simp [up] <;> omega)) (by first | omega | (simp [up] <;> omega)) <| c_v1 (dc kc_X6_apply_3 29 rfl) cl_X6_71 rfl (Nat.le_of_ble_eq_true rfl) (Nat.zero_le _) (Nat.zero_le _) ?_
      refine u_push hL hr (st := us) e2 (by omega) a2 (fun m3 g3 e3 a3 => ?_)
      refine s_goto (tgt := 790) (dc kc_X6_apply_3 30 rfl) rfl <| s_return (dc kc_X6_apply_4 39 rfl) rfl (Nat.zero_le _) (Nat.zero_le _) ?_
      exact fin m2 m3 _ us _ ((g1.mono (fun _ _ _ z => by simp [pQ, pV, pRd] at z ⊢; omega)).tr (g2.mono (fun _ _ _ z => by simp [pQ, pV, pRd] at z ⊢; omega))) (by rw [g2.at (by simp), g1.at (by simp)]; exact hB) (by rw [g2.at (by simp), g1.at (by simp)]) (by rw [List.length_cons, List.length_cons]; omega) (by rw [ev1_77]; congr 3; omega) g3 e3 a3
  · obtain ⟨r2, e2, e3⟩ := tyD_of (x := 1) (y := 2) hty
    subst e2
    subst e3
    obtain ⟨v, vs, e4, hv, hvs⟩ := hT.cons
    subst e4
    obtain ⟨u, us, e5, hu, hus⟩ := hvs.cons
    subst e5
    have hnn := sab_nn r2 us
    have hsb := hsab
    rw [sab, sab] at hsb
    try simp only [if_true, ↓reduceIte] at hsb
    have bu : -2000000 ≤ u ∧ u ≤ 2000000 := by first | (have := hu.2 rfl; omega) | omega
    have bv : -2000000 ≤ v ∧ v ≤ 2000000 := by first | (have := hv.2 rfl; omega) | omega
    rw [List.length_cons, List.length_cons] at h59
    refine s_iload_n (dc kc_X6_apply_0 0 rfl) rfl <| s_tabC (k0 := 92) (tgt := 692) (dc kc_X6_apply_0 1 rfl) ?_ rfl rfl rfl <| r_aload_n (dc kc_X6_apply_3 31 rfl) rfl <| r_aload_n (dc kc_X6_apply_3 32 rfl) rfl <| c_v0r (dc kc_X6_apply_3 33 rfl) cl_X6_67 rfl (Nat.le_of_ble_eq_true rfl) (Nat.zero_le _) (Nat.zero_le _) ?_
    · rfl
    · refine u_pop hL hr ht (by rw [List.length_cons]; omega) hA (fun m1 g1 e1 a1 => ?_)
      refine r_aload_n (dc kc_X6_apply_3 34 rfl) rfl <| c_v0r (dc kc_X6_apply_3 35 rfl) cl_X6_67 rfl (Nat.le_of_ble_eq_true rfl) (Nat.zero_le _) (Nat.zero_le _) ?_
      refine u_pop hL hr e1 (by omega) a1 (fun m2 g2 e2 a2 => ?_)
      refine s_icmp_le (tgt := 708) (dc kc_X6_apply_3 36 rfl) rfl (fun c701 => (k_i (dc kc_X6_apply_3 39 rfl) rfl <| ?_)) (fun c701 => (k_i (dc kc_X6_apply_3 37 rfl) rfl <| s_goto (tgt := 709) (dc kc_X6_apply_3 38 rfl) rfl <| ?_))
      · refine c_v1 (dc kc_X6_apply_4 0 rfl) cl_X6_71 rfl (Nat.le_of_ble_eq_true rfl) (Nat.zero_le _) (Nat.zero_le _) ?_
        refine u_push hL hr (st := us) e2 (by omega) a2 (fun m3 g3 e3 a3 => ?_)
        refine s_goto (tgt := 790) (dc kc_X6_apply_4 1 rfl) rfl <| s_return (dc kc_X6_apply_4 39 rfl) rfl (Nat.zero_le _) (Nat.zero_le _) ?_
        exact fin m2 m3 _ us _ ((g1.mono (fun _ _ _ z => by simp [pQ, pV, pRd] at z ⊢; omega)).tr (g2.mono (fun _ _ _ z => by simp [pQ, pV, pRd] at z ⊢; omega))) (by rw [g2.at (by simp), g1.at (by simp)]; exact hB) (by rw [g2.at (by simp), g1.at (by simp)]) (by rw [List.length_cons, List.length_cons]; omega) (by rw [ev1_92, bi_f (by omega)]; rfl) g3 e3 a3
      · refine c_v1 (dc kc_X6_apply_4 0 rfl) cl_X6_71 rfl (Nat.le_of_ble_eq_true rfl) (Nat.zero_le _) (Nat.zero_le _) ?_
        refine u_push hL hr (st := us) e2 (by omega) a2 (fun m3 g3 e3 a3 => ?_)
        refine s_goto (tgt := 790) (dc kc_X6_apply_4 1 rfl) rfl <| s_return (dc kc_X6_apply_4 39 rfl) rfl (Nat.zero_le _) (Nat.zero_le _) ?_
        exact fin m2 m3 _ us _ ((g1.mono (fun _ _ _ z => by simp [pQ, pV, pRd] at z ⊢; omega)).tr (g2.mono (fun _ _ _ z => by simp [pQ, pV, pRd] at z ⊢; omega))) (by rw [g2.at (by simp), g1.at (by simp)]; exact hB) (by rw [g2.at (by simp), g1.at (by simp)]) (by rw [List.length_cons, List.length_cons]; omega) (by rw [ev1_92, bi_t (by omega)]; rfl) g3 e3 a3
  · obtain ⟨r2, e2, e3⟩ := tyD_of (x := 1) (y := 2) hty
    subst e2
    subst e3
    obtain ⟨v, vs, e4, hv, hvs⟩ := hT.cons
    subst e4
    obtain ⟨u, us, e5, hu, hus⟩ := hvs.cons
    subst e5
    have hnn := sab_nn r2 us
    have hsb := hsab
    rw [sab, sab] at hsb
    try simp only [if_true, ↓reduceIte] at hsb
    have bu : -2000000 ≤ u ∧ u ≤ 2000000 := by first | (have := hu.2 rfl; omega) | omega
    have bv : -2000000 ≤ v ∧ v ≤ 2000000 := by first | (have := hv.2 rfl; omega) | omega
    rw [List.length_cons, List.length_cons] at h59
    refine s_iload_n (dc kc_X6_apply_0 0 rfl) rfl <| s_tabC (k0 := 94) (tgt := 715) (dc kc_X6_apply_0 1 rfl) ?_ rfl rfl rfl <| r_aload_n (dc kc_X6_apply_4 2 rfl) rfl <| r_aload_n (dc kc_X6_apply_4 3 rfl) rfl <| c_v0r (dc kc_X6_apply_4 4 rfl) cl_X6_67 rfl (Nat.le_of_ble_eq_true rfl) (Nat.zero_le _) (Nat.zero_le _) ?_
    · rfl
    · refine u_pop hL hr ht (by rw [List.length_cons]; omega) hA (fun m1 g1 e1 a1 => ?_)
      refine r_aload_n (dc kc_X6_apply_4 5 rfl) rfl <| c_v0r (dc kc_X6_apply_4 6 rfl) cl_X6_67 rfl (Nat.le_of_ble_eq_true rfl) (Nat.zero_le _) (Nat.zero_le _) ?_
      refine u_pop hL hr e1 (by omega) a1 (fun m2 g2 e2 a2 => ?_)
      refine s_icmp_ge (tgt := 731) (dc kc_X6_apply_4 7 rfl) rfl (fun c724 => (k_i (dc kc_X6_apply_4 10 rfl) rfl <| ?_)) (fun c724 => (k_i (dc kc_X6_apply_4 8 rfl) rfl <| s_goto (tgt := 732) (dc kc_X6_apply_4 9 rfl) rfl <| ?_))
      · refine c_v1 (dc kc_X6_apply_4 11 rfl) cl_X6_71 rfl (Nat.le_of_ble_eq_true rfl) (Nat.zero_le _) (Nat.zero_le _) ?_
        refine u_push hL hr (st := us) e2 (by omega) a2 (fun m3 g3 e3 a3 => ?_)
        refine s_goto (tgt := 790) (dc kc_X6_apply_4 12 rfl) rfl <| s_return (dc kc_X6_apply_4 39 rfl) rfl (Nat.zero_le _) (Nat.zero_le _) ?_
        exact fin m2 m3 _ us _ ((g1.mono (fun _ _ _ z => by simp [pQ, pV, pRd] at z ⊢; omega)).tr (g2.mono (fun _ _ _ z => by simp [pQ, pV, pRd] at z ⊢; omega))) (by rw [g2.at (by simp), g1.at (by simp)]; exact hB) (by rw [g2.at (by simp), g1.at (by simp)]) (by rw [List.length_cons, List.length_cons]; omega) (by rw [ev1_94, bi_f (by omega)]; rfl) g3 e3 a3
      · refine c_v1 (dc kc_X6_apply_4 11 rfl) cl_X6_71 rfl (Nat.le_of_ble_eq_true rfl) (Nat.zero_le _) (Nat.zero_le _) ?_
        refine u_push hL hr (st := us) e2 (by omega) a2 (fun m3 g3 e3 a3 => ?_)
        refine s_goto (tgt := 790) (dc kc_X6_apply_4 12 rfl) rfl <| s_return (dc kc_X6_apply_4 39 rfl) rfl (Nat.zero_le _) (Nat.zero_le _) ?_
        exact fin m2 m3 _ us _ ((g1.mono (fun _ _ _ z => by simp [pQ, pV, pRd] at z ⊢; omega)).tr (g2.mono (fun _ _ _ z => by simp [pQ, pV, pRd] at z ⊢; omega))) (by rw [g2.at (by simp), g1.at (by simp)]; exact hB) (by rw [g2.at (by simp), g1.at (by simp)]) (by rw [List.length_cons, List.length_cons]; omega) (by rw [ev1_94, bi_t (by omega)]; rfl) g3 e3 a3
  · obtain ⟨r2, e2, e3⟩ := tyD_of (x := 1) (y := 2) hty
    subst e2
    subst e3
    obtain ⟨v, vs, e4, hv, hvs⟩ := hT.cons
    subst e4
    obtain ⟨u, us, e5, hu, hus⟩ := hvs.cons
    subst e5
    have hnn := sab_nn r2 us
    have hsb := hsab
    rw [sab, sab] at hsb
    try simp only [if_true, ↓reduceIte] at hsb
    have bu : -2000000 ≤ u ∧ u ≤ 2000000 := by first | (have := hu.2 rfl; omega) | omega
    have bv : -2000000 ≤ v ∧ v ≤ 2000000 := by first | (have := hv.2 rfl; omega) | omega
    rw [List.length_cons, List.length_cons] at h59
    refine s_iload_n (dc kc_X6_apply_0 0 rfl) rfl <| s_tabC (k0 := 93) (tgt := 738) (dc kc_X6_apply_0 1 rfl) ?_ rfl rfl rfl <| r_aload_n (dc kc_X6_apply_4 13 rfl) rfl <| r_aload_n (dc kc_X6_apply_4 14 rfl) rfl <| c_v0r (dc kc_X6_apply_4 15 rfl) cl_X6_67 rfl (Nat.le_of_ble_eq_true rfl) (Nat.zero_le _) (Nat.zero_le _) ?_
    · rfl
    · refine u_pop hL hr ht (by rw [List.length_cons]; omega) hA (fun m1 g1 e1 a1 => ?_)
      refine r_aload_n (dc kc_X6_apply_4 16 rfl) rfl <| c_v0r (dc kc_X6_apply_4 17 rfl) cl_X6_67 rfl (Nat.le_of_ble_eq_true rfl) (Nat.zero_le _) (Nat.zero_le _) ?_
      refine u_pop hL hr e1 (by omega) a1 (fun m2 g2 e2 a2 => ?_)
      refine s_icmp_ne (tgt := 754) (dc kc_X6_apply_4 18 rfl) rfl (fun c747 => (k_i (dc kc_X6_apply_4 21 rfl) rfl <| ?_)) (fun c747 => (k_i (dc kc_X6_apply_4 19 rfl) rfl <| s_goto (tgt := 755) (dc kc_X6_apply_4 20 rfl) rfl <| ?_))
      · refine c_v1 (dc kc_X6_apply_4 22 rfl) cl_X6_71 rfl (Nat.le_of_ble_eq_true rfl) (Nat.zero_le _) (Nat.zero_le _) ?_
        refine u_push hL hr (st := us) e2 (by omega) a2 (fun m3 g3 e3 a3 => ?_)
        refine s_goto (tgt := 790) (dc kc_X6_apply_4 23 rfl) rfl <| s_return (dc kc_X6_apply_4 39 rfl) rfl (Nat.zero_le _) (Nat.zero_le _) ?_
        exact fin m2 m3 _ us _ ((g1.mono (fun _ _ _ z => by simp [pQ, pV, pRd] at z ⊢; omega)).tr (g2.mono (fun _ _ _ z => by simp [pQ, pV, pRd] at z ⊢; omega))) (by rw [g2.at (by simp), g1.at (by simp)]; exact hB) (by rw [g2.at (by simp), g1.at (by simp)]) (by rw [List.length_cons, List.length_cons]; omega) (by rw [ev1_93, bi_f (by omega)]; rfl) g3 e3 a3
      · refine c_v1 (dc kc_X6_apply_4 22 rfl) cl_X6_71 rfl (Nat.le_of_ble_eq_true rfl) (Nat.zero_le _) (Nat.zero_le _) ?_
        refine u_push hL hr (st := us) e2 (by omega) a2 (fun m3 g3 e3 a3 => ?_)
        refine s_goto (tgt := 790) (dc kc_X6_apply_4 23 rfl) rfl <| s_return (dc kc_X6_apply_4 39 rfl) rfl (Nat.zero_le _) (Nat.zero_le _) ?_
        exact fin m2 m3 _ us _ ((g1.mono (fun _ _ _ z => by simp [pQ, pV, pRd] at z ⊢; omega)).tr (g2.mono (fun _ _ _ z => by simp [pQ, pV, pRd] at z ⊢; omega))) (by rw [g2.at (by simp), g1.at (by simp)]; exact hB) (by rw [g2.at (by simp), g1.at (by simp)]) (by rw [List.length_cons, List.length_cons]; omega) (by rw [ev1_93, bi_t (by omega)]; rfl) g3 e3 a3
  · obtain ⟨r2, e2, e3⟩ := tyD_of (x := 2) (y := 2) hty
    subst e2
    subst e3
    obtain ⟨v, vs, e4, hv, hvs⟩ := hT.cons
    subst e4
    obtain ⟨u, us, e5, hu, hus⟩ := hvs.cons
    subst e5
    have hnn := sab_nn r2 us
    have hsb := hsab
    rw [sab, sab] at hsb
    try simp only [if_true, ↓reduceIte] at hsb
    have bu : -2000000 ≤ u ∧ u ≤ 2000000 := by first | (have := hu.2 rfl; omega) | omega
    have bv : -2000000 ≤ v ∧ v ≤ 2000000 := by first | (have := hv.2 rfl; omega) | omega
    rw [List.length_cons, List.length_cons] at h59
    refine s_iload_n (dc kc_X6_apply_0 0 rfl) rfl <| s_tabC (k0 := 17) (tgt := 761) (dc kc_X6_apply_0 1 rfl) ?_ rfl rfl rfl <| r_aload_n (dc kc_X6_apply_4 24 rfl) rfl <| r_aload_n (dc kc_X6_apply_4 25 rfl) rfl <| c_v0r (dc kc_X6_apply_4 26 rfl) cl_X6_67 rfl (Nat.le_of_ble_eq_true rfl) (Nat.zero_le _) (Nat.zero_le _) ?_
    · rfl
    · refine u_pop hL hr ht (by rw [List.length_cons]; omega) hA (fun m1 g1 e1 a1 => ?_)
      refine r_aload_n (dc kc_X6_apply_4 27 rfl) rfl <| c_v0r (dc kc_X6_apply_4 28 rfl) cl_X6_67 rfl (Nat.le_of_ble_eq_true rfl) (Nat.zero_le _) (Nat.zero_le _) ?_
      refine u_pop hL hr e1 (by omega) a1 (fun m2 g2 e2 a2 => ?_)
      refine s_iand (dc kc_X6_apply_4 29 rfl) <| c_v1 (dc kc_X6_apply_4 30 rfl) cl_X6_71 rfl (Nat.le_of_ble_eq_true rfl) (Nat.zero_le _) (Nat.zero_le _) ?_
      refine u_push hL hr (st := us) e2 (by omega) a2 (fun m3 g3 e3 a3 => ?_)
      refine s_goto (tgt := 790) (dc kc_X6_apply_4 31 rfl) rfl <| s_return (dc kc_X6_apply_4 39 rfl) rfl (Nat.zero_le _) (Nat.zero_le _) ?_
      exact fin m2 m3 _ us _ ((g1.mono (fun _ _ _ z => by simp [pQ, pV, pRd] at z ⊢; omega)).tr (g2.mono (fun _ _ _ z => by simp [pQ, pV, pRd] at z ⊢; omega))) (by rw [g2.at (by simp), g1.at (by simp)]; exact hB) (by rw [g2.at (by simp), g1.at (by simp)]) (by rw [List.length_cons, List.length_cons]; omega) (by rw [ev1_17, bAnd_comm]; rfl) g3 e3 a3
  · obtain ⟨r2, e2, e3⟩ := tyD_of (x := 2) (y := 2) hty
    subst e2
    subst e3
    obtain ⟨v, vs, e4, hv, hvs⟩ := hT.cons
    subst e4
    obtain ⟨u, us, e5, hu, hus⟩ := hvs.cons
    subst e5
    have hnn := sab_nn r2 us
    have hsb := hsab
    rw [sab, sab] at hsb
    try simp only [if_true, ↓reduceIte] at hsb
    have bu : -2000000 ≤ u ∧ u ≤ 2000000 := by first | (have := hu.2 rfl; omega) | omega
    have bv : -2000000 ≤ v ∧ v ≤ 2000000 := by first | (have := hv.2 rfl; omega) | omega
    rw [List.length_cons, List.length_cons] at h59
    refine s_iload_n (dc kc_X6_apply_0 0 rfl) rfl <| s_tabC (k0 := 16) (tgt := 777) (dc kc_X6_apply_0 1 rfl) ?_ rfl rfl rfl <| r_aload_n (dc kc_X6_apply_4 32 rfl) rfl <| r_aload_n (dc kc_X6_apply_4 33 rfl) rfl <| c_v0r (dc kc_X6_apply_4 34 rfl) cl_X6_67 rfl (Nat.le_of_ble_eq_true rfl) (Nat.zero_le _) (Nat.zero_le _) ?_
    · rfl
    · refine u_pop hL hr ht (by rw [List.length_cons]; omega) hA (fun m1 g1 e1 a1 => ?_)
      refine r_aload_n (dc kc_X6_apply_4 35 rfl) rfl <| c_v0r (dc kc_X6_apply_4 36 rfl) cl_X6_67 rfl (Nat.le_of_ble_eq_true rfl) (Nat.zero_le _) (Nat.zero_le _) ?_
      refine u_pop hL hr e1 (by omega) a1 (fun m2 g2 e2 a2 => ?_)
      refine s_ior (dc kc_X6_apply_4 37 rfl) <| c_v1 (dc kc_X6_apply_4 38 rfl) cl_X6_71 rfl (Nat.le_of_ble_eq_true rfl) (Nat.zero_le _) (Nat.zero_le _) ?_
      refine u_push hL hr (st := us) e2 (by omega) a2 (fun m3 g3 e3 a3 => ?_)
      refine s_return (dc kc_X6_apply_4 39 rfl) rfl (Nat.zero_le _) (Nat.zero_le _) ?_
      exact fin m2 m3 _ us _ ((g1.mono (fun _ _ _ z => by simp [pQ, pV, pRd] at z ⊢; omega)).tr (g2.mono (fun _ _ _ z => by simp [pQ, pV, pRd] at z ⊢; omega))) (by rw [g2.at (by simp), g1.at (by simp)]; exact hB) (by rw [g2.at (by simp), g1.at (by simp)]) (by rw [List.length_cons, List.length_cons]; omega) (by rw [ev1_16, bOr_comm]; rfl) g3 e3 a3
end RD3
