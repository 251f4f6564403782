/-! the class: copy, flip, step -/
def pFl (g a b : Nat) (k : Int) : Bool := pSt g a b k || (a == 0 && b == 0 && k == 3) || (a == 0 && b == 60 && k == 3) || (a == 0 && b == 70 && k == 10)
def pCs (g a b : Nat) (k : Int) : Bool := pSo g a b k || (a == 0 && b == 0 && k == 3) || (a == 0 && b == 60 && k == 3) || (a == 0 && b == 70 && k == 10)
section PB6
variable {d n G : Nat} {mr : MR} {Q : V → MI → Nat → MR → Prop}
theorem u_ccopy (hL : Lay G mr) {mi : MI} {g : Nat} {ρ : Int → Int} {B : Int} (hnow : mr 0 0 4 = some (g, 5)) (hg : g < G) (hR : Rep (-1) mi g ρ) (hI : Inv B ρ) (hQ2 : ∀ mi', Cg (pCh g) mi mi' → mi' 0 0 3 = mi 0 0 3 → mi' 0 60 3 = -1 → mi' 0 70 10 = 0 → Rep (-1) mi' g (ud (cpF ρ ρ 78 30 24) 14 1) → Q (vI 0) mi' n mr) : Tx (d+3) mt_X11_copy [vR (some (0, 0))] mi n mr Q := by
  have hok : okI G 5 g := hg
  have hok3 : okI G 15 g := Or.inl hg
  obtain ⟨rW, rL, rN, rJ, rS, rH, rC⟩ := id hR
  refine tx_intro (ls := [vR (some (0, 0))]) om_X11_copy rfl (Nat.le_of_ble_eq_true rfl) ?_
  refine r_aload_n (dc kc_X11_copy 0 rfl) rfl <| s_getO (dc kc_X11_copy 1 rfl) fl_X11_26 hnow <| s_getO (dc kc_X11_copy 2 rfl) fl_X11_140 (ly_5_0 hL (by assumption)) <| s_getA (dc kc_X11_copy 3 rfl) fl_X11_144 (ly_15_0 hL (by assumption)) <| k_i (dc kc_X11_copy 4 rfl) rfl <| r_aload_n (dc kc_X11_copy 5 rfl) rfl <| s_getO (dc kc_X11_copy 6 rfl) fl_X11_26 hnow <| s_getA (dc kc_X11_copy 7 rfl) fl_X11_259 (ly_5_9 hL (by assumption)) <| k_i (dc kc_X11_copy 8 rfl) rfl <| k_b (dc kc_X11_copy 9 rfl) rfl <| s_copy (dc kc_X11_copy 10 rfl) rfl rfl cp_X11_262 nat_copy st_copy it_J10 (by first | omega | (simp [up] <;> omega)) (by first | omega | (simp [up] <;> omega)) (by first | omega | (simp [up] <;> omega)) (by first | omega | (simp [up] <;> omega)) (by first | omega | (simp [up] <;> omega)) <| r_aload_n (dc kc_X11_copy 11 rfl) rfl <| s_getO (dc kc_X11_copy 12 rfl) fl_X11_26 hnow <| k_i (dc kc_X11_copy 13 rfl) rfl <| s_putZ (dc kc_X11_copy 14 rfl) fl_X11_268 (by first | exact Or.inl rfl | exact Or.inr rfl | exact bi_01 | assumption) <| r_aload_n (dc kc_X11_copy 15 rfl) rfl <| c_v0 (dc kc_X11_copy 16 rfl) cl_X11_106 rfl (Nat.le_of_ble_eq_true rfl) (Nat.zero_le _) (Nat.zero_le _) <| u_changed hL <| k_i (dc kc_X11_copy 17 rfl) rfl <| s_ireturn (dc kc_X11_copy 18 rfl) rfl (Nat.zero_le _) (Nat.zero_le _) ?_
  have off : ∀ k, ¬ (78 ≤ k ∧ k < 102) → k ≠ 14 → ud (cpF ρ ρ 78 30 24) 14 1 k = ρ k := fun k h1 h2 => by
    rw [ud_ne h2]
    unfold cpF
    rw [if_neg (by omega)]
  refine hQ2 _ ((((Cg.rf.upA (fun k => by simp [pCh])).up (by simp [pCh])).up (by simp [pCh])).up (by simp [pCh])) (by rw [up_j (by decide), up_j (by decide), up_j (by decide), upA_a (by simp)]) (by rw [up_j (by decide), up_at]) up_at (hR.set hI.wf hI.1.2.2.2.1.2 (fun k h1 h2 => off k (by omega) (by omega)) (fun x j z h5 _ h10 _ => ?_) (fun i h1 h2 => ?_) (fun i h1 h2 => ?_) ?_ ?_)
  · have : j ≠ 70 ∧ j ≠ 60 := by simp [rlS] at z; omega
    rw [up_j this.1, up_j this.2, up_j h5, upA_a (fun w => h10 (by injection w))]
  · rw [up_j (by decide), up_j (by decide), up_j (by decide), upA_a (by simp), off _ (by omega) (by omega)]; exact rC.2.2.2.1 i h1 h2
  · rw [up_j (by decide), up_j (by decide), up_j (by decide), upA_at, ud_ne (by omega)]
    unfold cpy cpF
    rw [if_pos (by omega), if_pos (by omega), show (0 : Int) + (i - 0) = i by omega, show 78 + i - 78 + 30 = 30 + i by omega]
    exact rW.1 i h1 h2
  · rw [up_j (by decide), up_j (by decide), up_at, up_k (by decide), up_k (by decide), up_k (by decide), upA_a (by simp), ud_at, off 15 (by omega) (by decide), off 9 (by omega) (by decide), off 10 (by omega) (by decide)]
    exact ⟨rfl, rC.2.2.2.2.2.2⟩
  · rw [up_j (by decide), up_j (by decide), up_j (by decide), upA_a (by simp), off 11 (by omega) (by decide), off 12 (by omega) (by decide), off 13 (by omega) (by decide)]
    exact ⟨rH.1, rH.2.1, rH.2.2.1, rH.2.2.2.1⟩
theorem Rep.far {mi mi' : MI} {g : Nat} {ρ : Int → Int} {e : Int} (h : Rep e mi g ρ) (hm : ∀ a b, 5 ≤ b → b ≤ 43 → mi' a b = mi a b) : Rep e mi' g ρ := h.mv (fun a b z => hm a b (by simp [rlS] at z; omega) (by simp [rlS] at z; omega))
theorem u_cflip (hL : Lay G mr) {mi : MI} {g : Nat} {ρ : Int → Int} {B c v : Int} (hnow : mr 0 0 4 = some (g, 5)) (hg : g < G) (hR : Rep (-1) mi g ρ) (hI : Inv B ρ) (hQ1 : ¬ ((0 ≤ c ∧ c ≤ 23) ∧ biC c v = 1) → Q (vI (-1)) (up mi 0 0 3 (-1)) n mr) (hQ2 : 0 ≤ c → c ≤ 23 → biC c v = 1 → ∀ mi', Cg (pFl g) mi mi' → mi' 0 0 3 = 0 → mi' 0 60 3 = -1 → mi' 0 70 10 = 0 → Rep (-1) mi' g (flipR ρ c v) → Q (vI (ρ (30 + c))) mi' n mr) : Tx (d+6) mt_X11_flip [vR (some (0, 0)), vI c, vI v] mi n mr Q := by
  have hok : okI G 5 g := hg
  have hok3 : okI G 15 g := Or.inl hg
  obtain ⟨rW, rL, rN, rJ, rS, rH, rC⟩ := id hR
  have e60 := rC.1 0 (by decide) (by decide) (by decide)
  refine tx_intro (ls := [vR (some (0, 0)), vI c, vI v, vX 0]) om_X11_flip rfl (Nat.le_of_ble_eq_true rfl) ?_
  by_cases hc : 0 ≤ c ∧ c ≤ 23
  · have hcel := rW.1 c hc.1 (by omega)
    refine s_iload_n (dc kc_X11_flip 0 rfl) rfl <| c_s1r (dc kc_X11_flip 1 rfl) cl_X11_169 rfl (Nat.le_of_ble_eq_true rfl) (Nat.zero_le _) (Nat.zero_le _) <| u_isCell <| s_if_eqb (tgt := 15) (dc kc_X11_flip 2 rfl) rfl (fun c4 => (?_)) (fun c4 => (s_iload_n (dc kc_X11_flip 3 rfl) rfl <| s_iload_n (dc kc_X11_flip 4 rfl) rfl <| c_s2r (dc kc_X11_flip 5 rfl) cl_X11_185 rfl (Nat.le_of_ble_eq_true rfl) (Nat.zero_le _) (Nat.zero_le _) <| u_canBe (by first | omega | (simp [up] <;> omega)) <| s_if_neb (tgt := 21) (dc kc_X11_flip 6 rfl) rfl (fun c12 => (?_)) (fun c12 => (?_))))
    · exfalso; omega
    · have hb : biC c v = 1 := by unfold biC; exact bi_t c12
      refine r_aload_n (dc kc_X11_flip 11 rfl) rfl <| s_getO (dc kc_X11_flip 12 rfl) fl_X11_26 hnow <| s_getO (dc kc_X11_flip 13 rfl) fl_X11_140 (ly_5_0 hL (by assumption)) <| s_getA (dc kc_X11_flip 14 rfl) fl_X11_144 (ly_15_0 hL (by assumption)) <| s_iload_n (dc kc_X11_flip 15 rfl) rfl <| s_iaload (dc kc_X11_flip 16 rfl) rfl (by first | omega | (simp [up] <;> omega)) (by first | omega | (simp [up] <;> omega)) <| t_i3 (dc kc_X11_flip 17 rfl) (Nat.le_of_ble_eq_true rfl) rfl <| r_aload_n (dc kc_X11_flip 18 rfl) rfl <| s_getO (dc kc_X11_flip 19 rfl) fl_X11_26 hnow <| r_aload_n (dc kc_X11_flip 20 rfl) rfl <| s_getO (dc kc_X11_flip 21 rfl) fl_X11_26 hnow <| s_getA (dc kc_X11_flip 22 rfl) fl_X11_118 (ly_5_5 hL (by assumption)) <| k_i (dc kc_X11_flip 23 rfl) rfl <| s_iaload (dc kc_X11_flip 24 rfl) rfl (by first | omega | (simp [up] <;> omega)) (by first | omega | (simp [up] <;> omega)) <| s_iload_n (dc kc_X11_flip 25 rfl) rfl <| s_iload_n (dc kc_X11_flip 26 rfl) rfl <| c_v3 (dc kc_X11_flip 27 rfl) cl_X11_189 rfl (Nat.le_of_ble_eq_true rfl) (Nat.zero_le _) (Nat.zero_le _) ?_
      rw [hcel]
      refine u_flipTo hL hg hR hI.2.1 hI.wf hI.1.2.2.2.1 hI.2.2.1.2.2.2.2.2.2.2.2.2 hc.1 (by omega) e60 (fun m2 g2 hR2 => ?_)
      refine r_aload_n (dc kc_X11_flip 28 rfl) rfl <| c_v0 (dc kc_X11_flip 29 rfl) cl_X11_106 rfl (Nat.le_of_ble_eq_true rfl) (Nat.zero_le _) (Nat.zero_le _) <| u_changed hL <| r_aload_n (dc kc_X11_flip 30 rfl) rfl <| s_iload_n (dc kc_X11_flip 31 rfl) rfl <| c_v1r (dc kc_X11_flip 32 rfl) cl_X11_112 rfl (Nat.le_of_ble_eq_true rfl) (Nat.zero_le _) (Nat.zero_le _) <| u_answer <| s_ireturn (dc kc_X11_flip 33 rfl) rfl (Nat.zero_le _) (Nat.zero_le _) ?_
      refine hQ2 hc.1 hc.2 hb _ ((((g2.mono (fun a b k z => by simp [pFl, z])).up (by simp [pFl])).up (by simp [pFl])).up (by simp [pFl])) up_at (by rw [up_j (by decide), up_j (by decide), up_at]) (by rw [up_j (by decide), up_at]) (hR2.far (fun a b h1 h2 => by rw [up_j (by omega), up_j (by omega), up_j (by omega)]))
    · refine r_aload_n (dc kc_X11_flip 7 rfl) rfl <| k_i (dc kc_X11_flip 8 rfl) rfl <| c_v1r (dc kc_X11_flip 9 rfl) cl_X11_80 rfl (Nat.le_of_ble_eq_true rfl) (Nat.zero_le _) (Nat.zero_le _) <| u_refuse <| s_ireturn (dc kc_X11_flip 10 rfl) rfl (Nat.zero_le _) (Nat.zero_le _) ?_
      exact hQ1 (fun z => by
        have h2 := z.2
        unfold biC at h2
        rw [bi_f c12] at h2
        cases h2)
  · refine s_iload_n (dc kc_X11_flip 0 rfl) rfl <| c_s1r (dc kc_X11_flip 1 rfl) cl_X11_169 rfl (Nat.le_of_ble_eq_true rfl) (Nat.zero_le _) (Nat.zero_le _) <| u_isCell <| s_if_eqb (tgt := 15) (dc kc_X11_flip 2 rfl) rfl (fun c4 => (r_aload_n (dc kc_X11_flip 7 rfl) rfl <| k_i (dc kc_X11_flip 8 rfl) rfl <| c_v1r (dc kc_X11_flip 9 rfl) cl_X11_80 rfl (Nat.le_of_ble_eq_true rfl) (Nat.zero_le _) (Nat.zero_le _) <| u_refuse <| s_ireturn (dc kc_X11_flip 10 rfl) rfl (Nat.zero_le _) (Nat.zero_le _) ?_)) (fun c4 => (?_))
    · exact hQ1 (fun z => hc z.1)
    · exfalso; omega
theorem u_cstep (hL : Lay G mr) {mi : MI} {g : Nat} {ρ : Int → Int} {B x : Int} (hnow : mr 0 0 4 = some (g, 5)) (hg : g < G) (hR : Rep (-1) mi g ρ) (hI : Inv B ρ) (hB : B + 64 ≤ 1000000) (hQ1 : ¬ (1 ≤ x ∧ x ≤ 64) → Q (vI (-1)) (up mi 0 0 3 (-1)) n mr) (hQ2 : 1 ≤ x → x ≤ 64 → ρ 17 = 0 → Q (vI (-3)) (up mi 0 0 3 (-3)) n mr) (hQ3 : 1 ≤ x → x ≤ 64 → ρ 17 ≠ 0 → ∀ mi' mr', Cg (pCs g) mi mi' → Cr mr mr' → mi' 0 0 3 = 0 → mi' 0 60 3 = -1 → mi' 0 70 10 = 0 → Rep (-1) mi' g (stpN ρ x.toNat) → Q (vI (stpN ρ x.toNat 0)) mi' n mr') : Tx (d+7) mt_X11_step [vR (some (0, 0)), vI x] mi n mr Q := by
  have hok : okI G 5 g := hg
  have e17 := hR.2.2.1.1
  have h17 := hI.1.2.2.2.2.2.2.1
  refine tx_intro (ls := [vR (some (0, 0)), vI x, vX 0]) om_X11_step rfl (Nat.le_of_ble_eq_true rfl) ?_
  by_cases hx : 1 ≤ x ∧ x ≤ 64
  · by_cases h0 : ρ 17 = 0
    · refine s_iload_n (dc kc_X11_step 0 rfl) rfl <| k_i (dc kc_X11_step 1 rfl) rfl <| s_icmp_lt (tgt := 11) (dc kc_X11_step 2 rfl) rfl (fun c2 => (r_aload_n (dc kc_X11_step 6 rfl) rfl <| k_i (dc kc_X11_step 7 rfl) rfl <| c_v1r (dc kc_X11_step 8 rfl) cl_X11_80 rfl (Nat.le_of_ble_eq_true rfl) (Nat.zero_le _) (Nat.zero_le _) <| u_refuse <| s_ireturn (dc kc_X11_step 9 rfl) rfl (Nat.zero_le _) (Nat.zero_le _) ?_)) (fun c2 => (s_iload_n (dc kc_X11_step 3 rfl) rfl <| k_b (dc kc_X11_step 4 rfl) rfl <| s_icmp_le (tgt := 17) (dc kc_X11_step 5 rfl) rfl (fun c8 => (r_aload_n (dc kc_X11_step 10 rfl) rfl <| s_getO (dc kc_X11_step 11 rfl) fl_X11_26 hnow <| s_getO (dc kc_X11_step 12 rfl) fl_X11_115 (ly_5_2 hL (by assumption)) <| s_getI (dc kc_X11_step 13 rfl) fl_X11_109 <| s_if_ne (tgt := 37) (dc kc_X11_step 14 rfl) rfl (fun c27 => (?_)) (fun c27 => (r_aload_n (dc kc_X11_step 15 rfl) rfl <| k_b (dc kc_X11_step 16 rfl) rfl <| c_v1r (dc kc_X11_step 17 rfl) cl_X11_80 rfl (Nat.le_of_ble_eq_true rfl) (Nat.zero_le _) (Nat.zero_le _) <| u_refuse <| s_ireturn (dc kc_X11_step 18 rfl) rfl (Nat.zero_le _) (Nat.zero_le _) ?_)))) (fun c8 => (r_aload_n (dc kc_X11_step 6 rfl) rfl <| k_i (dc kc_X11_step 7 rfl) rfl <| c_v1r (dc kc_X11_step 8 rfl) cl_X11_80 rfl (Nat.le_of_ble_eq_true rfl) (Nat.zero_le _) (Nat.zero_le _) <| u_refuse <| s_ireturn (dc kc_X11_step 9 rfl) rfl (Nat.zero_le _) (Nat.zero_le _) ?_))))
      all_goals first | (exfalso; omega) | exact hQ2 hx.1 hx.2 h0
    · have loop : ∀ k : Nat, k ≤ x.toNat → ∀ (m : MI) (mr1 : MR), Cg (pSo g) mi m → Cr mr mr1 → Rep (-1) m g (stpN ρ k) → Run (d+7) mt_X11_step Q (n, mr1, 0, 0) m 39 [vR (some (0, 0)), vI x, vI (k : Int)] [] := by
        refine nloop ?_
        intro k hk ih m mr1 gC hCr hRk
        have hL := hCr.lay hL
        have hnow : mr1 0 0 4 = some (g, 5) := by rw [hCr.at (by decide) (by decide)]; exact hnow
        have hIk := stpN_Inv hI (by omega) k (by omega)
        by_cases he : k < x.toNat
        · refine s_iload_n (dc kc_X11_step 21 rfl) rfl <| s_iload_n (dc kc_X11_step 22 rfl) rfl <| s_icmp_ge (tgt := 54) (dc kc_X11_step 23 rfl) rfl (fun c41 => (?_)) (fun c41 => (r_aload_n (dc kc_X11_step 24 rfl) rfl <| c_v0 (dc kc_X11_step 25 rfl) cl_X11_203 rfl (Nat.le_of_ble_eq_true rfl) (Nat.zero_le _) (Nat.zero_le _) ?_))
          · exfalso; omega
          · refine u_stepOnce hL hnow hg hIk.1 (by rw [hIk.2]; omega) hRk (fun m2 mr2 g2 c2 hR2 => ?_)
            refine b_inc2 (dc kc_X11_step 26 rfl) rfl (Nat.le_of_ble_eq_true rfl) rfl (by first | omega | (simp [up] <;> omega)) (by first | omega | (simp [up] <;> omega)) <| s_goto (tgt := 39) (dc kc_X11_step 27 rfl) rfl <| ?_
            exact ih he m2 mr2 (gC.tr g2) (hCr.tr c2) hR2
        · have e : k = x.toNat := by omega
          subst e
          refine s_iload_n (dc kc_X11_step 21 rfl) rfl <| s_iload_n (dc kc_X11_step 22 rfl) rfl <| s_icmp_ge (tgt := 54) (dc kc_X11_step 23 rfl) rfl (fun c41 => (r_aload_n (dc kc_X11_step 28 rfl) rfl <| c_v0 (dc kc_X11_step 29 rfl) cl_X11_106 rfl (Nat.le_of_ble_eq_true rfl) (Nat.zero_le _) (Nat.zero_le _) <| u_changed hL <| r_aload_n (dc kc_X11_step 30 rfl) rfl <| r_aload_n (dc kc_X11_step 31 rfl) rfl <| s_getO (dc kc_X11_step 32 rfl) fl_X11_26 hnow <| s_getA (dc kc_X11_step 33 rfl) fl_X11_118 (ly_5_5 hL (by assumption)) <| k_i (dc kc_X11_step 34 rfl) rfl <| s_iaload (dc kc_X11_step 35 rfl) rfl (by first | omega | (simp [up] <;> omega)) (by first | omega | (simp [up] <;> omega)) <| c_v1r (dc kc_X11_step 36 rfl) cl_X11_112 rfl (Nat.le_of_ble_eq_true rfl) (Nat.zero_le _) (Nat.zero_le _) <| u_answer <| s_ireturn (dc kc_X11_step 37 rfl) rfl (Nat.zero_le _) (Nat.zero_le _) ?_)) (fun c41 => (?_))
          · have e0 : up (up m 0 60 3 (-1)) 0 70 10 0 g 6 0 = stpN ρ x.toNat 0 := by rw [up_j (by decide), up_j (by decide)]; exact hRk.2.2.2.2.2.2.1 0 (by decide) (by decide) (by decide)
            rw [e0]
            refine hQ3 hx.1 hx.2 h0 _ mr1 ((((gC.mono (fun a b k z => by simp [pCs, z])).up (by simp [pCs])).up (by simp [pCs])).up (by simp [pCs])) hCr up_at (by rw [up_j (by decide), up_j (by decide), up_at]) (by rw [up_j (by decide), up_at]) (hRk.far (fun a b h1 h2 => by rw [up_j (by omega), up_j (by omega), up_j (by omega)]))
          · exfalso; omega
      refine s_iload_n (dc kc_X11_step 0 rfl) rfl <| k_i (dc kc_X11_step 1 rfl) rfl <| s_icmp_lt (tgt := 11) (dc kc_X11_step 2 rfl) rfl (fun c2 => (r_aload_n (dc kc_X11_step 6 rfl) rfl <| k_i (dc kc_X11_step 7 rfl) rfl <| c_v1r (dc kc_X11_step 8 rfl) cl_X11_80 rfl (Nat.le_of_ble_eq_true rfl) (Nat.zero_le _) (Nat.zero_le _) <| u_refuse <| s_ireturn (dc kc_X11_step 9 rfl) rfl (Nat.zero_le _) (Nat.zero_le _) ?_)) (fun c2 => (s_iload_n (dc kc_X11_step 3 rfl) rfl <| k_b (dc kc_X11_step 4 rfl) rfl <| s_icmp_le (tgt := 17) (dc kc_X11_step 5 rfl) rfl (fun c8 => (r_aload_n (dc kc_X11_step 10 rfl) rfl <| s_getO (dc kc_X11_step 11 rfl) fl_X11_26 hnow <| s_getO (dc kc_X11_step 12 rfl) fl_X11_115 (ly_5_2 hL (by assumption)) <| s_getI (dc kc_X11_step 13 rfl) fl_X11_109 <| s_if_ne (tgt := 37) (dc kc_X11_step 14 rfl) rfl (fun c27 => (k_i (dc kc_X11_step 19 rfl) rfl <| t_i2 (dc kc_X11_step 20 rfl) (Nat.le_of_ble_eq_true rfl) rfl <| ?_)) (fun c27 => (?_)))) (fun c8 => (r_aload_n (dc kc_X11_step 6 rfl) rfl <| k_i (dc kc_X11_step 7 rfl) rfl <| c_v1r (dc kc_X11_step 8 rfl) cl_X11_80 rfl (Nat.le_of_ble_eq_true rfl) (Nat.zero_le _) (Nat.zero_le _) <| u_refuse <| s_ireturn (dc kc_X11_step 9 rfl) rfl (Nat.zero_le _) (Nat.zero_le _) ?_))))
      all_goals first | (exfalso; omega) | skip
      exact loop 0 (Nat.zero_le _) mi mr Cg.rf Cr.rf hR
  · refine s_iload_n (dc kc_X11_step 0 rfl) rfl <| k_i (dc kc_X11_step 1 rfl) rfl <| s_icmp_lt (tgt := 11) (dc kc_X11_step 2 rfl) rfl (fun c2 => (r_aload_n (dc kc_X11_step 6 rfl) rfl <| k_i (dc kc_X11_step 7 rfl) rfl <| c_v1r (dc kc_X11_step 8 rfl) cl_X11_80 rfl (Nat.le_of_ble_eq_true rfl) (Nat.zero_le _) (Nat.zero_le _) <| u_refuse <| s_ireturn (dc kc_X11_step 9 rfl) rfl (Nat.zero_le _) (Nat.zero_le _) ?_)) (fun c2 => (s_iload_n (dc kc_X11_step 3 rfl) rfl <| k_b (dc kc_X11_step 4 rfl) rfl <| s_icmp_le (tgt := 17) (dc kc_X11_step 5 rfl) rfl (fun c8 => (?_)) (fun c8 => (r_aload_n (dc kc_X11_step 6 rfl) rfl <| k_i (dc kc_X11_step 7 rfl) rfl <| c_v1r (dc kc_X11_step 8 rfl) cl_X11_80 rfl (Nat.le_of_ble_eq_true rfl) (Nat.zero_le _) (Nat.zero_le _) <| u_refuse <| s_ireturn (dc kc_X11_step 9 rfl) rfl (Nat.zero_le _) (Nat.zero_le _) ?_))))
    all_goals first | (exfalso; omega) | exact hQ1 hx
end PB6
