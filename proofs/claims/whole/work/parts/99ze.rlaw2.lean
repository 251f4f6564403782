/-! the reference: a law read -/
section RL2
variable {d n G : Nat} {mr : MR} {Q : V → MI → Nat → MR → Prop} {t : Int → Int} {N : Int}
theorem t_readLaw12 (hL : Lay G mr) {mi : MI} {f u : Int} (hA : RA t N mi f u) (h28 : mi 0 80 28 = 12) (hQ : ∀ m', Ch pTq mi m' → RB m' f → Q (vX 0) m' n mr) : Tx (d+10) mt_X12_readLaw [vR (some (0, 80))] mi n mr Q := by
  have body : ∀ its : Int, Run (d+10) mt_X12_readLaw Q (n, mr, 0, 0) mi 71 [vR (some (0, 80)), vX 0, vX 0] [vI its] := fun its => by
    have mus : Run (d+10) mt_X12_readLaw Q (n, mr, 0, 0) mi 91 [vR (some (0, 80)), vI its, vX 0] [vR (some (0, 80))] := by
      refine k_i (dc kc_X12_readLaw_1 2 rfl) rfl <| c_v1 (dc kc_X12_readLaw_1 3 rfl) cl_X12_187 rfl (Nat.le_of_ble_eq_true rfl) (Nat.zero_le _) (Nat.zero_le _) ?_
      refine t_mustF hL hA (fun m2 g2 h2 => ?_)
      have e17 := h2.1
      refine r_aload_n (dc kc_X12_readLaw_1 4 rfl) rfl <| s_getZ (dc kc_X12_readLaw_1 5 rfl) fl_X12_146 <| s_if_eq (tgt := 103) (dc kc_X12_readLaw_1 6 rfl) rfl (fun c99 => (?_)) (fun c99 => (s_return (dc kc_X12_readLaw_1 7 rfl) rfl (Nat.zero_le _) (Nat.zero_le _) ?_))
      · exfalso; omega
      · exact hQ m2 g2 h2
    refine t_i1 (dc kc_X12_readLaw_0 31 rfl) (Nat.le_of_ble_eq_true rfl) rfl <| r_aload_n (dc kc_X12_readLaw_0 32 rfl) rfl <| s_iload_n (dc kc_X12_readLaw_0 33 rfl) rfl <| k_i (dc kc_X12_readLaw_0 34 rfl) rfl <| s_icmp_eq (tgt := 91) (dc kc_X12_readLaw_0 35 rfl) rfl (fun c75 => (?_)) (fun c75 => (r_aload_n (dc kc_X12_readLaw_0 36 rfl) rfl <| s_getI (dc kc_X12_readLaw_0 37 rfl) fl_X12_303 <| k_b (dc kc_X12_readLaw_0 38 rfl) rfl <| s_icmp_ge (tgt := 91) (dc kc_X12_readLaw_0 39 rfl) rfl (fun c84 => (?_)) (fun c84 => (k_i (dc kc_X12_readLaw_1 0 rfl) rfl <| s_goto (tgt := 92) (dc kc_X12_readLaw_1 1 rfl) rfl <| ?_))))
    all_goals first | exact mus | (exfalso; omega)
  refine tx_intro (ls := [vR (some (0, 80)), vX 0, vX 0]) om_X12_readLaw rfl (Nat.le_of_ble_eq_true rfl) ?_
  refine r_aload_n (dc kc_X12_readLaw_0 0 rfl) rfl <| k_j (dc kc_X12_readLaw_0 1 rfl) kj_X12_293 rfl (a := 403060) (by decide) <| c_v1r (dc kc_X12_readLaw_0 2 rfl) cl_X12_220 rfl (Nat.le_of_ble_eq_true rfl) (Nat.zero_le _) (Nat.zero_le _) <| t_isWord <| s_if_eqb (tgt := 14) (dc kc_X12_readLaw_0 3 rfl) rfl (fun c7 => (r_aload_n (dc kc_X12_readLaw_0 6 rfl) rfl <| k_j (dc kc_X12_readLaw_0 7 rfl) kj_X12_295 rfl (a := 679214) (by decide) <| c_v1r (dc kc_X12_readLaw_0 8 rfl) cl_X12_220 rfl (Nat.le_of_ble_eq_true rfl) (Nat.zero_le _) (Nat.zero_le _) <| t_isWord <| s_if_eqb (tgt := 28) (dc kc_X12_readLaw_0 9 rfl) rfl (fun c21 => (r_aload_n (dc kc_X12_readLaw_0 12 rfl) rfl <| k_j (dc kc_X12_readLaw_0 13 rfl) kj_X12_297 rfl (a := 599653) (by decide) <| c_v1r (dc kc_X12_readLaw_0 14 rfl) cl_X12_220 rfl (Nat.le_of_ble_eq_true rfl) (Nat.zero_le _) (Nat.zero_le _) <| t_isWord <| s_if_eqb (tgt := 42) (dc kc_X12_readLaw_0 15 rfl) rfl (fun c35 => (r_aload_n (dc kc_X12_readLaw_0 18 rfl) rfl <| k_j (dc kc_X12_readLaw_0 19 rfl) kj_X12_299 rfl (a := 1574484) (by decide) <| c_v1r (dc kc_X12_readLaw_0 20 rfl) cl_X12_220 rfl (Nat.le_of_ble_eq_true rfl) (Nat.zero_le _) (Nat.zero_le _) <| t_isWord <| s_if_eqb (tgt := 56) (dc kc_X12_readLaw_0 21 rfl) rfl (fun c49 => (r_aload_n (dc kc_X12_readLaw_0 24 rfl) rfl <| k_j (dc kc_X12_readLaw_0 25 rfl) kj_X12_301 rfl (a := 365744) (by decide) <| c_v1r (dc kc_X12_readLaw_0 26 rfl) cl_X12_220 rfl (Nat.le_of_ble_eq_true rfl) (Nat.zero_le _) (Nat.zero_le _) <| t_isWord <| s_if_eqb (tgt := 70) (dc kc_X12_readLaw_0 27 rfl) rfl (fun c63 => (k_i (dc kc_X12_readLaw_0 30 rfl) rfl <| ?_)) (fun c63 => (k_i (dc kc_X12_readLaw_0 28 rfl) rfl <| s_goto (tgt := 71) (dc kc_X12_readLaw_0 29 rfl) rfl <| ?_)))) (fun c49 => (k_i (dc kc_X12_readLaw_0 22 rfl) rfl <| s_goto (tgt := 71) (dc kc_X12_readLaw_0 23 rfl) rfl <| ?_)))) (fun c35 => (k_i (dc kc_X12_readLaw_0 16 rfl) rfl <| s_goto (tgt := 71) (dc kc_X12_readLaw_0 17 rfl) rfl <| ?_)))) (fun c21 => (k_i (dc kc_X12_readLaw_0 10 rfl) rfl <| s_goto (tgt := 71) (dc kc_X12_readLaw_0 11 rfl) rfl <| ?_)))) (fun c7 => (k_i (dc kc_X12_readLaw_0 4 rfl) rfl <| s_goto (tgt := 71) (dc kc_X12_readLaw_0 5 rfl) rfl <| ?_))
  all_goals exact body _
theorem t_readLawA (hL : Lay G mr) (hP : Tpe t N) {mi : MI} {C0 f Rr : Int} (hA : RA t N mi f 0) (h28 : mi 0 80 28 = Rr) (hR0 : 0 ≤ Rr) (hR1 : Rr < 12) (h20 : mi 0 80 20 = C0) (hC0 : 0 ≤ C0) (hCf : C0 ≤ f) (h19 : mi 0 80 19 = 0) (h25 : -100 ≤ mi 0 80 25 ∧ mi 0 80 25 ≤ 100)
    (hQA : ∀ m' f' u' c' (a : Nat), Ch (pLw C0 Rr) mi m' → RA t N m' f' u' → m' 0 80 28 = Rr + 1 → C0 ≤ m' 0 80 20 → m' 0 80 20 ≤ f' → (-100 ≤ m' 0 80 25 ∧ m' 0 80 25 ≤ 100) → lawM m' Rr = c' → (0 ≤ m' 0 91 (10 * Rr) ∧ m' 0 91 (10 * Rr) ≤ 4) → (m' 0 91 (10 * Rr) = 4 → m' 0 91 (10 * Rr + 3) = C0 ∧ m' 0 91 (10 * Rr + 4) = m' 0 80 20) → a ≤ 9000 → Rh (tkF t N) (nuF t N) (nxF t N) 0 a (f, 0, 0, -1, [700], 9, 0, [], [], []) (f', u', 0, -1, [], 9, 0, [], [], c') → Q (vX 0) m' n mr)
    (hQD : ∀ m' p, Ch (pLw 0 0) mi m' → DXz t N 0 m' p → Dn (tkF t N) (nuF t N) (nxF t N) 0 9000 (f, 0, 0, -1, [700], 9, 0, [], [], []) p → Q (vX 0) m' n mr) : Tx (d+10) mt_X12_readLaw [vR (some (0, 80))] mi n mr Q := by
  have hN := hP.1.2
  have hf := hA.2.2.2.2.1
  have lw0 : ∀ {m m' : MI}, Ch (pLw C0 Rr) m m' → Ch (pLw 0 0) m m' := fun h => h.mono (fun j k z => by simp [pLw, pPr] at z ⊢; omega)
  have w0 := hA.2.1.word hP hf.1 0 (by decide) (H := 403060) (by decide +kernel)
  have w1 := hA.2.1.word hP hf.1 1 (by decide) (H := 679214) (by decide +kernel)
  have w2 := hA.2.1.word hP hf.1 2 (by decide) (H := 599653) (by decide +kernel)
  have w3 := hA.2.1.word hP hf.1 3 (by decide) (H := 1574484) (by decide +kernel)
  have w4 := hA.2.1.word hP hf.1 4 (by decide) (H := 365744) (by decide +kernel)
  generalize hs0 : ((f, 0, 0, -1, [700], 9, 0, [], [], []) : MS) = s0 at *
  -- the end of a law
  have fin : ∀ (m2 : MI) (its f2 u2 : Int) (c' : List CT) (a : Nat), Ch (pLw C0 Rr) mi m2 → RA t N m2 f2 u2 → m2 0 80 28 = Rr → C0 ≤ m2 0 80 20 → m2 0 80 20 ≤ f2 → (-100 ≤ m2 0 80 25 ∧ m2 0 80 25 ≤ 100) → m2 0 91 (10 * Rr) = its → (0 ≤ its ∧ its ≤ 4) → (its = 4 → m2 0 91 (10 * Rr + 3) = C0 ∧ CdR m2 C0 c') → (its < 4 → lawM m2 Rr = c') → a ≤ 9000 → Rh (tkF t N) (nuF t N) (nxF t N) 0 a s0 (f2, u2, 0, -1, [], 9, 0, [], [], c') → Run (d+10) mt_X12_readLaw Q (n, mr, 0, 0) m2 195 [vR (some (0, 80)), vI its, vI (10 * Rr)] [] := by
    intro m2 its f2 u2 c' a g2 hA2 e28 e20 e20f e25 e91 hits hk hl ha hRh
    have u28 : ∀ z y, up m2 0 91 z y 0 80 28 = Rr := fun z y => by rw [up_j (by decide)]; exact e28
    refine r_aload_n (dc kc_X12_readLaw_2 23 rfl) rfl <| s_getA (dc kc_X12_readLaw_2 24 rfl) fl_X12_45 (ly_80_27 hL) <| s_iload_n (dc kc_X12_readLaw_2 25 rfl) rfl <| k_i (dc kc_X12_readLaw_2 26 rfl) rfl <| b_iadd (dc kc_X12_readLaw_2 27 rfl) (by first | omega | (simp [up] <;> omega)) (by first | omega | (simp [up] <;> omega)) <| r_aload_n (dc kc_X12_readLaw_2 28 rfl) rfl <| s_getI (dc kc_X12_readLaw_2 29 rfl) fl_X12_191 <| s_iastore (dc kc_X12_readLaw_2 30 rfl) rfl (by first | omega | (simp [up] <;> omega)) (by first | omega | (simp [up] <;> omega)) <| r_aload_n (dc kc_X12_readLaw_2 31 rfl) rfl <| s_dup (dc kc_X12_readLaw_2 32 rfl) rfl <| s_getI (dc kc_X12_readLaw_2 33 rfl) fl_X12_303 <| k_i (dc kc_X12_readLaw_2 34 rfl) rfl <| b_iadd (dc kc_X12_readLaw_2 35 rfl) (by first | omega | (simp [up] <;> omega)) (by first | omega | (simp [up] <;> omega)) <| s_putI (dc kc_X12_readLaw_2 36 rfl) fl_X12_303 <| s_return (dc kc_X12_readLaw_2 37 rfl) rfl (Nat.zero_le _) (Nat.zero_le _) ?_
    rw [u28]
    generalize hm3 : up (up m2 0 91 (10 * Rr + 4) (m2 0 80 20)) 0 80 28 (Rr + 1) = m3
    have g3 : Ch (fun j k => (j == 91 && k == 10 * Rr + 4) || (j == 80 && k == 28)) m2 m3 := by
      rw [← hm3]; exact (Ch.rf.up (by simp)).up (by simp)
    have q0 : m3 0 91 (10 * Rr) = its := by rw [g3.at (by simp; omega)]; exact e91
    have q1 : m3 0 91 (10 * Rr + 1) = m2 0 91 (10 * Rr + 1) := g3.at (by simp)
    have q2 : m3 0 91 (10 * Rr + 2) = m2 0 91 (10 * Rr + 2) := g3.at (by simp)
    have q3 : m3 0 91 (10 * Rr + 3) = m2 0 91 (10 * Rr + 3) := g3.at (by simp)
    have q4 : m3 0 91 (10 * Rr + 4) = m2 0 80 20 := by rw [← hm3, up_j (by decide), up_at]
    have q20 : m3 0 80 20 = m2 0 80 20 := g3.at (by simp)
    refine hQA m3 f2 u2 c' a (g2.tr (g3.mono (fun j k z => by simp at z; simp [pLw]; omega))) (hA2.mv g3 (fun k => by simp) (fun k k0 k1 _ => by simp; omega)) (by rw [← hm3, up_at]) (by omega) (by omega) (by rw [g3.at (by simp)]; exact e25) ?_ (by omega) (fun z => ⟨by rw [q3]; exact (hk (by omega)).1, by omega⟩) ha hRh
    by_cases h4 : its = 4
    · obtain ⟨k1, k2, k3⟩ := hk h4
      unfold lawM
      rw [q0, if_pos h4, q3, q4, k1, k2, show (C0 + (c'.length : Int) - C0).toNat = c'.length by omega]
      rw [slcR_ext (m := m2) _ _ (fun j _ _ => ⟨by rw [g3.at (by simp)], by rw [g3.at (by simp)]⟩), k3]
    · rw [← hl (by omega)]
      unfold lawM
      rw [q0, e91, if_neg h4, if_neg h4, q1, q2]
  -- behind the word
  have aft : ∀ (m1 : MI) (its f1 : Int) (a : Nat), (0 ≤ its ∧ its ≤ 4) → Ch (pLw C0 Rr) mi m1 → RA t N m1 f1 1 → m1 0 80 28 = Rr → m1 0 80 20 = C0 → m1 0 80 19 = 0 → C0 ≤ f1 → (-100 ≤ m1 0 80 25 ∧ m1 0 80 25 ≤ 100) → a ≤ 2 → Rh (tkF t N) (nuF t N) (nxF t N) 0 a s0 (f1, 1, 0, -1, (if its = 4 then [710] else if its = 3 then [325, 303] else [300 + its]), 9, 0, [], [], []) → Run (d+10) mt_X12_readLaw Q (n, mr, 0, 0) m1 103 [vR (some (0, 80)), vI its, vX 0] [] := by
    intro m1 its f1 a hits g1 hA1 e28 e20 e19 eCf e25 ha hRh
    have hf1 := hA1.2.2.2.2.1
    have e17 := hA1.2.2.1
    refine k_b (dc kc_X12_readLaw_1 8 rfl) rfl <| r_aload_n (dc kc_X12_readLaw_1 9 rfl) rfl <| s_getI (dc kc_X12_readLaw_1 10 rfl) fl_X12_303 <| b_imul (dc kc_X12_readLaw_1 11 rfl) (by first | omega | (simp [up] <;> omega)) (by first | omega | (simp [up] <;> omega)) <| t_i2 (dc kc_X12_readLaw_1 12 rfl) (Nat.le_of_ble_eq_true rfl) rfl <| ?_
    rw [e28]
    by_cases h4 : its = 4
    · subst h4
      rw [if_pos rfl] at hRh
      refine r_aload_n (dc kc_X12_readLaw_1 13 rfl) rfl <| s_getA (dc kc_X12_readLaw_1 14 rfl) fl_X12_45 (ly_80_27 hL) <| s_iload_n (dc kc_X12_readLaw_1 15 rfl) rfl <| s_iload_n (dc kc_X12_readLaw_1 16 rfl) rfl <| s_iastore (dc kc_X12_readLaw_1 17 rfl) rfl (by first | omega | (simp [up] <;> omega)) (by first | omega | (simp [up] <;> omega)) <| r_aload_n (dc kc_X12_readLaw_1 18 rfl) rfl <| s_getA (dc kc_X12_readLaw_1 19 rfl) fl_X12_45 (ly_80_27 hL) <| s_iload_n (dc kc_X12_readLaw_1 20 rfl) rfl <| k_i (dc kc_X12_readLaw_1 21 rfl) rfl <| b_iadd (dc kc_X12_readLaw_1 22 rfl) (by first | omega | (simp [up] <;> omega)) (by first | omega | (simp [up] <;> omega)) <| s_iload_n (dc kc_X12_readLaw_1 23 rfl) rfl <| k_i (dc kc_X12_readLaw_1 24 rfl) rfl <| s_icmp_ne (tgt := 134) (dc kc_X12_readLaw_1 25 rfl) rfl (fun c127 => (r_aload_n (dc kc_X12_readLaw_1 28 rfl) rfl <| k_j (dc kc_X12_readLaw_1 29 rfl) kj_X12_235 rfl (a := 2) (by decide) <| c_v1r (dc kc_X12_readLaw_1 30 rfl) cl_X12_237 rfl (Nat.le_of_ble_eq_true rfl) (Nat.zero_le _) (Nat.zero_le _) ?_)) (fun c127 => (k_i (dc kc_X12_readLaw_1 26 rfl) rfl <| s_goto (tgt := 141) (dc kc_X12_readLaw_1 27 rfl) rfl <| s_iastore (dc kc_X12_readLaw_1 31 rfl) rfl (by first | omega | (simp [up] <;> omega)) (by first | omega | (simp [up] <;> omega)) <| r_aload_n (dc kc_X12_readLaw_1 32 rfl) rfl <| s_getA (dc kc_X12_readLaw_1 33 rfl) fl_X12_45 (ly_80_27 hL) <| s_iload_n (dc kc_X12_readLaw_1 34 rfl) rfl <| k_i (dc kc_X12_readLaw_1 35 rfl) rfl <| b_iadd (dc kc_X12_readLaw_1 36 rfl) (by first | omega | (simp [up] <;> omega)) (by first | omega | (simp [up] <;> omega)) <| s_iload_n (dc kc_X12_readLaw_1 37 rfl) rfl <| k_i (dc kc_X12_readLaw_1 38 rfl) rfl <| s_icmp_ne (tgt := 164) (dc kc_X12_readLaw_1 39 rfl) rfl (fun c151 => (k_i (dc kc_X12_readLaw_2 4 rfl) rfl <| s_iastore (dc kc_X12_readLaw_2 5 rfl) rfl (by first | omega | (simp [up] <;> omega)) (by first | omega | (simp [up] <;> omega)) <| r_aload_n (dc kc_X12_readLaw_2 6 rfl) rfl <| s_getA (dc kc_X12_readLaw_2 7 rfl) fl_X12_45 (ly_80_27 hL) <| s_iload_n (dc kc_X12_readLaw_2 8 rfl) rfl <| k_i (dc kc_X12_readLaw_2 9 rfl) rfl <| b_iadd (dc kc_X12_readLaw_2 10 rfl) (by first | omega | (simp [up] <;> omega)) (by first | omega | (simp [up] <;> omega)) <| r_aload_n (dc kc_X12_readLaw_2 11 rfl) rfl <| s_getI (dc kc_X12_readLaw_2 12 rfl) fl_X12_191 <| s_iastore (dc kc_X12_readLaw_2 13 rfl) rfl (by first | omega | (simp [up] <;> omega)) (by first | omega | (simp [up] <;> omega)) <| ?_)) (fun c151 => (r_aload_n (dc kc_X12_readLaw_2 0 rfl) rfl <| k_j (dc kc_X12_readLaw_2 1 rfl) kj_X12_235 rfl (a := 2) (by decide) <| c_v1r (dc kc_X12_readLaw_2 2 rfl) cl_X12_237 rfl (Nat.le_of_ble_eq_true rfl) (Nat.zero_le _) (Nat.zero_le _) ?_))))
      all_goals first | (exfalso; omega) | skip
      generalize hm3 : up (up (up (up m1 0 91 (10 * Rr) 4) 0 91 (10 * Rr + 1) 0) 0 91 (10 * Rr + 2) 0) 0 91 (10 * Rr + 3) _ = m3
      have g3 : Ch (fun j _ => j == 91) m1 m3 := by
        rw [← hm3]; exact (((Ch.rf.up (by simp)).up (by simp)).up (by simp)).up (by simp)
      have g3' : Ch (pLw C0 Rr) mi m3 := by
        rw [← hm3]; exact lw_91 (lw_91 (lw_91 (lw_91 g1 (by omega)) (by omega)) (by omega)) (by omega)
      have q17 : m3 0 80 17 = 0 := by rw [g3.at (by simp)]; exact e17
      have q28 : m3 0 80 28 = Rr := by rw [g3.at (by simp)]; exact e28
      have q20 : m3 0 80 20 = C0 := by rw [g3.at (by simp)]; exact e20
      have r0 : m3 0 91 (10 * Rr) = 4 := by rw [← hm3, up_k (by omega), up_k (by omega), up_k (by omega), up_at]
      have r3 : m3 0 91 (10 * Rr + 3) = C0 := by rw [← hm3, up_at, up_j (by decide), up_j (by decide), up_j (by decide)]; exact e20
      refine s_iload_n (dc kc_X12_readLaw_2 14 rfl) rfl <| k_i (dc kc_X12_readLaw_2 15 rfl) rfl <| s_icmp_ne (tgt := 195) (dc kc_X12_readLaw_2 16 rfl) rfl (fun c180 => (?_)) (fun c180 => (r_aload_n (dc kc_X12_readLaw_2 17 rfl) rfl <| s_getZ (dc kc_X12_readLaw_2 18 rfl) fl_X12_146 <| s_if_ne (tgt := 195) (dc kc_X12_readLaw_2 19 rfl) rfl (fun c187 => (?_)) (fun c187 => (r_aload_n (dc kc_X12_readLaw_2 20 rfl) rfl <| k_i (dc kc_X12_readLaw_2 21 rfl) rfl <| c_v1 (dc kc_X12_readLaw_2 22 rfl) cl_X12_306 rfl (Nat.le_of_ble_eq_true rfl) (Nat.zero_le _) (Nat.zero_le _) ?_))))
      · exfalso; omega
      · exfalso; omega
      · refine t_readExprA hL hP (o := 0) (C0 := C0) (K := []) (ts := true) (R := []) (tg := 9) (e := 0) (pp := []) (v := []) (c := []) (hA1.mv g3 (fun k => by simp) (fun k k0 k1 _ => by simp)) (by omega) ⟨by simp; exact q20, rfl⟩ hC0 (by omega) (by simp) (by rw [g3.at (by simp)]; exact e19) (Or.inl rfl) rfl (fun m4 f4 u4 nd a4 g4 xA x24 xC xw xu xa xR => ?_) (fun m4 p4 g4 x4 d4 => ?_)
        · have hu4 := xA.2.2.2.2.2.1
          exact fin m4 4 f4 u4 nd (a + a4) (g3'.tr (lw_pr g4)) xA (by rw [g4.at (by simp [pPr])]; exact q28) (by rw [xC.1]; omega) xw (by omega) (by rw [g4.at (by simp [pPr])]; exact r0) (by omega) (fun _ => ⟨by rw [g4.at (by simp [pPr])]; exact r3, xC⟩) (fun z => by omega) (by omega) (hRh.tr xR)
        · have d5 := (hRh.dn d4).mono (b := 9000) (by omega)
          have x5 := x4.z0
          have e5 : m4 0 80 28 = Rr := by rw [g4.at (by simp [pPr])]; exact q28
          have g5 : Ch (pLw 0 0) mi m4 := (lw0 g3').tr (lw_pr g4)
          have u28 : ∀ z y, up m4 0 91 z y 0 80 28 = Rr := fun z y => by rw [up_j (by decide)]; exact e5
          refine r_aload_n (dc kc_X12_readLaw_2 23 rfl) rfl <| s_getA (dc kc_X12_readLaw_2 24 rfl) fl_X12_45 (ly_80_27 hL) <| s_iload_n (dc kc_X12_readLaw_2 25 rfl) rfl <| k_i (dc kc_X12_readLaw_2 26 rfl) rfl <| b_iadd (dc kc_X12_readLaw_2 27 rfl) (by first | omega | (simp [up] <;> omega)) (by first | omega | (simp [up] <;> omega)) <| r_aload_n (dc kc_X12_readLaw_2 28 rfl) rfl <| s_getI (dc kc_X12_readLaw_2 29 rfl) fl_X12_191 <| s_iastore (dc kc_X12_readLaw_2 30 rfl) rfl (by first | omega | (simp [up] <;> omega)) (by first | omega | (simp [up] <;> omega)) <| r_aload_n (dc kc_X12_readLaw_2 31 rfl) rfl <| s_dup (dc kc_X12_readLaw_2 32 rfl) rfl <| s_getI (dc kc_X12_readLaw_2 33 rfl) fl_X12_303 <| k_i (dc kc_X12_readLaw_2 34 rfl) rfl <| b_iadd (dc kc_X12_readLaw_2 35 rfl) (by first | omega | (simp [up] <;> omega)) (by first | omega | (simp [up] <;> omega)) <| s_putI (dc kc_X12_readLaw_2 36 rfl) fl_X12_303 <| s_return (dc kc_X12_readLaw_2 37 rfl) rfl (Nat.zero_le _) (Nat.zero_le _) ?_
          rw [u28]
          exact hQD _ p4 ((lw_91 g5 (by omega)).up (by simp [pLw])) (x5.u91.mv (P := fun j k => j == 80 && k == 28) (Ch.rf.up (by simp)) (fun k => by simp) (fun k k0 k1 => by simp; omega)) d5
    · rw [if_neg h4] at hRh
      -- at the third place
      have b2 : ∀ (m2 : MI) (f2 u2 y : Int) (c' : List CT) (a2 : Nat), Ch (pLw C0 Rr) mi m2 → RA t N m2 f2 u2 → m2 0 80 28 = Rr → m2 0 80 20 = C0 → C0 ≤ f2 → (-100 ≤ m2 0 80 25 ∧ m2 0 80 25 ≤ 100) → m2 0 91 (10 * Rr) = its → (if its = 0 then [((0 : Int), m2 0 91 (10 * Rr + 1))] else if its = 1 then [(1, m2 0 91 (10 * Rr + 1))] else if its = 2 then [(2, m2 0 91 (10 * Rr + 1))] else [(25, m2 0 91 (10 * Rr + 1)), (3, y)]) = c' → a2 ≤ 100 → Rh (tkF t N) (nuF t N) (nxF t N) 0 a2 s0 (f2, u2, 0, -1, [], 9, 0, [], [], c') → Run (d+10) mt_X12_readLaw Q (n, mr, 0, 0) m2 165 [vR (some (0, 80)), vI its, vI (10 * Rr)] [vI y, vI (10 * Rr + 2), vR (some (0, 91))] := by
        intro m2 f2 u2 y c' a2 g2 hA2 q28 q20 qf q25 q91 hc' ha2 hR2
        refine s_iastore (dc kc_X12_readLaw_2 5 rfl) rfl (by first | omega | (simp [up] <;> omega)) (by first | omega | (simp [up] <;> omega)) <| r_aload_n (dc kc_X12_readLaw_2 6 rfl) rfl <| s_getA (dc kc_X12_readLaw_2 7 rfl) fl_X12_45 (ly_80_27 hL) <| s_iload_n (dc kc_X12_readLaw_2 8 rfl) rfl <| k_i (dc kc_X12_readLaw_2 9 rfl) rfl <| b_iadd (dc kc_X12_readLaw_2 10 rfl) (by first | omega | (simp [up] <;> omega)) (by first | omega | (simp [up] <;> omega)) <| r_aload_n (dc kc_X12_readLaw_2 11 rfl) rfl <| s_getI (dc kc_X12_readLaw_2 12 rfl) fl_X12_191 <| s_iastore (dc kc_X12_readLaw_2 13 rfl) rfl (by first | omega | (simp [up] <;> omega)) (by first | omega | (simp [up] <;> omega)) <| s_iload_n (dc kc_X12_readLaw_2 14 rfl) rfl <| k_i (dc kc_X12_readLaw_2 15 rfl) rfl <| s_icmp_ne (tgt := 195) (dc kc_X12_readLaw_2 16 rfl) rfl (fun c180 => (?_)) (fun c180 => (r_aload_n (dc kc_X12_readLaw_2 17 rfl) rfl <| s_getZ (dc kc_X12_readLaw_2 18 rfl) fl_X12_146 <| s_if_ne (tgt := 195) (dc kc_X12_readLaw_2 19 rfl) rfl (fun c187 => (?_)) (fun c187 => (r_aload_n (dc kc_X12_readLaw_2 20 rfl) rfl <| k_i (dc kc_X12_readLaw_2 21 rfl) rfl <| c_v1 (dc kc_X12_readLaw_2 22 rfl) cl_X12_306 rfl (Nat.le_of_ble_eq_true rfl) (Nat.zero_le _) (Nat.zero_le _) ?_))))
        all_goals first | (exfalso; omega) | skip
        generalize hm3 : up (up m2 0 91 (10 * Rr + 2) y) 0 91 (10 * Rr + 3) _ = m3
        have g3 : Ch (fun j k => j == 91 && (k == 10 * Rr + 2 || k == 10 * Rr + 3)) m2 m3 := by
          rw [← hm3]; exact (Ch.rf.up (by simp)).up (by simp)
        have z0 : m3 0 91 (10 * Rr) = its := by rw [g3.at (by simp; omega)]; exact q91
        have z1 : m3 0 91 (10 * Rr + 1) = m2 0 91 (10 * Rr + 1) := g3.at (by simp)
        have z2 : m3 0 91 (10 * Rr + 2) = y := by rw [← hm3, up_k (by omega), up_at]
        refine fin m3 its f2 u2 c' a2 (g2.tr (g3.mono (fun j k z => by simp at z; simp [pLw]; omega))) (hA2.mv g3 (fun k => by simp) (fun k k0 k1 _ => by simp)) (by rw [g3.at (by simp)]; exact q28) (by rw [g3.at (by simp)]; omega) (by rw [g3.at (by simp)]; omega) (by rw [g3.at (by simp)]; exact q25) z0 hits (fun z => absurd z h4) (fun _ => ?_) (by omega) hR2
        unfold lawM
        rw [z0, if_neg h4, z1, z2]
        exact hc'
      have hW : ∀ {m2 : MI}, Ch pTq (up m1 0 91 (10 * Rr) its) m2 → Ch (pLw C0 Rr) mi m2 := fun g => (lw_91 g1 (by omega)).tr (lw_Tq g)
      refine r_aload_n (dc kc_X12_readLaw_1 13 rfl) rfl <| s_getA (dc kc_X12_readLaw_1 14 rfl) fl_X12_45 (ly_80_27 hL) <| s_iload_n (dc kc_X12_readLaw_1 15 rfl) rfl <| s_iload_n (dc kc_X12_readLaw_1 16 rfl) rfl <| s_iastore (dc kc_X12_readLaw_1 17 rfl) rfl (by first | omega | (simp [up] <;> omega)) (by first | omega | (simp [up] <;> omega)) <| r_aload_n (dc kc_X12_readLaw_1 18 rfl) rfl <| s_getA (dc kc_X12_readLaw_1 19 rfl) fl_X12_45 (ly_80_27 hL) <| s_iload_n (dc kc_X12_readLaw_1 20 rfl) rfl <| k_i (dc kc_X12_readLaw_1 21 rfl) rfl <| b_iadd (dc kc_X12_readLaw_1 22 rfl) (by first | omega | (simp [up] <;> omega)) (by first | omega | (simp [up] <;> omega)) <| s_iload_n (dc kc_X12_readLaw_1 23 rfl) rfl <| k_i (dc kc_X12_readLaw_1 24 rfl) rfl <| s_icmp_ne (tgt := 134) (dc kc_X12_readLaw_1 25 rfl) rfl (fun c127 => (r_aload_n (dc kc_X12_readLaw_1 28 rfl) rfl <| k_j (dc kc_X12_readLaw_1 29 rfl) kj_X12_235 rfl (a := 2) (by decide) <| c_v1r (dc kc_X12_readLaw_1 30 rfl) cl_X12_237 rfl (Nat.le_of_ble_eq_true rfl) (Nat.zero_le _) (Nat.zero_le _) ?_)) (fun c127 => (k_i (dc kc_X12_readLaw_1 26 rfl) rfl <| s_goto (tgt := 141) (dc kc_X12_readLaw_1 27 rfl) rfl <| ?_))
      · have hAu : RA t N (up m1 0 91 (10 * Rr) its) f1 1 := hA1.mv ch_91 (fun k => by simp) (fun k k0 k1 _ => by simp)
        refine t_numberA hL hP hAu (by omega) (fun h22 hnu m2 g2 h2 => ?_) (fun hno m2 y g2 h2 => ?_)
        · have q20 : m2 0 80 20 = C0 := by rw [g2.at (by simp [pTq]), up_j (by decide)]; exact e20
          have q25 : m2 0 80 25 = m1 0 80 25 := by rw [g2.at (by simp [pTq]), up_j (by decide)]
          have q28 : m2 0 80 28 = Rr := by rw [g2.at (by simp [pTq]), up_j (by decide)]; exact e28
          have q91 : m2 0 91 = up m1 0 91 (10 * Rr) its 0 91 := g2.row (fun k => by simp [pTq])
          obtain ⟨p1, p2, p3, p4⟩ := hA1.nx hP (by omega)
          have hnd : ¬ (59 ≤ (1 : Int) ∧ tkF t N (nxF t N f1) ≠ 91 ∧ tkF t N (nxF t N f1) ≠ 23) := fun z => by omega
          unfold Tko at h2
          rw [if_neg hnd] at h2
          have m91 : ∀ v : Int, up m2 0 91 (10 * Rr + 1) v 0 91 (10 * Rr) = its ∧ up m2 0 91 (10 * Rr + 1) v 0 91 (10 * Rr + 1) = v := fun v => ⟨by rw [up_k (by omega), q91, up_at], up_at⟩
          have hAv : ∀ v : Int, RA t N (up m2 0 91 (10 * Rr + 1) v) (nxF t N f1) (1 + 1) := fun v => h2.mv ch_91 (fun k => by simp) (fun k k0 k1 _ => by simp)
          refine s_iastore (dc kc_X12_readLaw_1 31 rfl) rfl (by first | omega | (simp [up] <;> omega)) (by first | omega | (simp [up] <;> omega)) <| r_aload_n (dc kc_X12_readLaw_1 32 rfl) rfl <| s_getA (dc kc_X12_readLaw_1 33 rfl) fl_X12_45 (ly_80_27 hL) <| s_iload_n (dc kc_X12_readLaw_1 34 rfl) rfl <| k_i (dc kc_X12_readLaw_1 35 rfl) rfl <| b_iadd (dc kc_X12_readLaw_1 36 rfl) (by first | omega | (simp [up] <;> omega)) (by first | omega | (simp [up] <;> omega)) <| s_iload_n (dc kc_X12_readLaw_1 37 rfl) rfl <| k_i (dc kc_X12_readLaw_1 38 rfl) rfl <| s_icmp_ne (tgt := 164) (dc kc_X12_readLaw_1 39 rfl) rfl (fun c151 => (k_i (dc kc_X12_readLaw_2 4 rfl) rfl <| ?_)) (fun c151 => (r_aload_n (dc kc_X12_readLaw_2 0 rfl) rfl <| k_j (dc kc_X12_readLaw_2 1 rfl) kj_X12_235 rfl (a := 2) (by decide) <| c_v1r (dc kc_X12_readLaw_2 2 rfl) cl_X12_237 rfl (Nat.le_of_ble_eq_true rfl) (Nat.zero_le _) (Nat.zero_le _) ?_))
          · rw [if_neg c151] at hRh
            have hnt := num_t (tk := tkF t N) (nu := nuF t N) (nx := nxF t N) (o := 0) (f := f1) (u := 1) (b' := 0) (y := 300 + its) (tg := 9) (e := 0) (r := []) (pp := []) (v := []) (c := []) (by omega) (by omega) (by simp) p2 h22 (by rw [show 300 + its - 300 = its by omega]; unfold mst; rw [if_neg (by omega), if_neg (by omega)]; exact hnu)
            rw [if_neg (by omega), if_neg (by omega), if_neg (by omega), show 300 + its - 300 = its by omega] at hnt
            refine b2 _ (nxF t N f1) (1 + 1) 0 [(its, nuF t N f1)] (a + 1) (lw_91 (hW g2) (by omega)) (hAv _) (by rw [up_j (by decide)]; exact q28) (by rw [up_j (by decide)]; exact q20) (by omega) (by rw [up_j (by decide)]; omega) (m91 _).1 ?_ (by omega) (hRh.tr (hnt.2 hnd))
            rw [(m91 _).2]
            have : its = 0 ∨ its = 1 ∨ its = 2 := by omega
            rcases this with z | z | z <;> (rw [z]; rfl)
          · rw [if_pos c151] at hRh
            have hnt := num_t (tk := tkF t N) (nu := nuF t N) (nx := nxF t N) (o := 0) (f := f1) (u := 1) (b' := 0) (y := 325) (tg := 9) (e := 0) (r := [303]) (pp := []) (v := []) (c := []) (by omega) (by omega) (by simp) p2 h22 hnu
            rw [if_neg (by decide), if_neg (by decide), if_neg (by decide)] at hnt
            have hR5 := hRh.tr (hnt.2 hnd)
            refine t_numberA hL hP (hAv (nuF t N f1)) (by omega) (fun h22' hnu' m3 g3 h3 => ?_) (fun hno' m3 y g3 h3 => ?_)
            · obtain ⟨i1, i2, i3, i4⟩ := h2.nx hP (by omega)
              have hnd' : ¬ (59 ≤ (1 + 1 : Int) ∧ tkF t N (nxF t N (nxF t N f1)) ≠ 91 ∧ tkF t N (nxF t N (nxF t N f1)) ≠ 23) := fun z => by omega
              unfold Tko at h3
              rw [if_neg hnd'] at h3
              have hnt' := num_t (tk := tkF t N) (nu := nuF t N) (nx := nxF t N) (o := 0) (f := nxF t N f1) (u := 1 + 1) (b' := 0) (y := 303) (tg := 9) (e := 0) (r := []) (pp := []) (v := []) (c := [] ++ [(325 - 300, nuF t N f1)]) (by omega) (by omega) (by simp) i2 h22' hnu'
              rw [if_neg (by decide), if_neg (by decide), if_neg (by decide)] at hnt'
              have r91 : m3 0 91 = up m2 0 91 (10 * Rr + 1) (nuF t N f1) 0 91 := g3.row (fun k => by simp [pTq])
              refine s_goto (tgt := 165) (dc kc_X12_readLaw_2 3 rfl) rfl <| ?_
              refine b2 m3 _ (1 + 1 + 1) (nuF t N (nxF t N f1)) _ (a + 1 + 1) ((lw_91 (hW g2) (by omega)).tr (lw_Tq g3)) h3 (by rw [g3.at (by simp [pTq]), up_j (by decide)]; exact q28) (by rw [g3.at (by simp [pTq]), up_j (by decide)]; exact q20) (by omega) (by rw [g3.at (by simp [pTq]), up_j (by decide)]; omega) (by rw [r91]; exact (m91 _).1) ?_ (by omega) (hR5.tr (hnt'.2 hnd'))
              rw [r91, (m91 _).2, c151]
              rfl
            · have hnf := num_f (tk := tkF t N) (nu := nuF t N) (nx := nxF t N) (o := 0) (f := nxF t N f1) (u := 1 + 1) (b' := 0) (y := 303) (tg := 9) (e := 0) (r := []) (pp := []) (v := []) (c := [] ++ [(325 - 300, nuF t N f1)]) (by omega) (by omega) (by simp) p2 hno'
              refine s_goto (tgt := 165) (dc kc_X12_readLaw_2 3 rfl) rfl <| ?_
              exact t_law165D hL hN hR0 hR1 (mi0 := mi) (fun m' gm' x' => hQD m' _ gm' x' ((hR5.dn hnf).mono (by omega))) (lw0 ((lw_91 (hW g2) (by omega)).tr (lw_Tq g3))) ⟨Or.inr h3, by rw [g3.at (by simp [pTq]), up_j (by decide)]; omega, by omega, by rw [g3.at (by simp [pTq]), up_j (by decide)]; omega, fun z => by have := h3.1; omega, by rw [g3.at (by simp [pTq]), up_j (by decide)]; omega⟩ (by rw [g3.at (by simp [pTq]), up_j (by decide)]; exact q28)
        · have hnf : Dn (tkF t N) (nuF t N) (nxF t N) 0 9000 s0 f1 := by
            by_cases h3 : its = 3
            · rw [if_pos h3] at hRh
              exact (hRh.dn (num_f (tk := tkF t N) (nu := nuF t N) (nx := nxF t N) (o := 0) (by decide) (by decide) (by simp) (by omega) hno)).mono (by omega)
            · rw [if_neg h3] at hRh
              exact (hRh.dn (num_f (tk := tkF t N) (nu := nuF t N) (nx := nxF t N) (o := 0) (by omega) (by omega) (by simp) (by omega) (by rw [show 300 + its - 300 = its by omega]; unfold mst; rw [if_neg (by omega), if_neg (by omega)]; exact hno))).mono (by omega)
          exact t_law141D hL hN hR0 hR1 (mi0 := mi) (fun m' gm' x' => hQD m' _ gm' x' hnf) (lw0 (hW g2)) ⟨Or.inr h2, by rw [g2.at (by simp [pTq]), up_j (by decide)]; omega, by omega, by rw [g2.at (by simp [pTq]), up_j (by decide)]; omega, fun z => by have := h2.1; omega, by rw [g2.at (by simp [pTq]), up_j (by decide)]; omega⟩ (by rw [g2.at (by simp [pTq]), up_j (by decide)]; exact e28)
      · exfalso; omega
  -- the word
  have body : ∀ its : Int, ((0 ≤ its ∧ its ≤ 4) ∧ tkF t N f = its) ∨ (its = -1 ∧ ¬ (tkF t N f = 0 ∨ tkF t N f = 1 ∨ tkF t N f = 2 ∨ tkF t N f = 3 ∨ tkF t N f = 4)) → Run (d+10) mt_X12_readLaw Q (n, mr, 0, 0) mi 71 [vR (some (0, 80)), vX 0, vX 0] [vI its] := by
    intro its hits
    rcases hits with ⟨h04, htk⟩ | ⟨hm1, hno⟩
    · obtain ⟨p1, p2, p3, p4⟩ := hA.nx hP (by omega)
      have hprd : prd 0 (tkF t N f) 700 = some (1, (if its = 4 then [710] else if its = 3 then [325, 303] else [300 + its])) := by
        rw [htk]
        have : its = 0 ∨ its = 1 ∨ its = 2 ∨ its = 3 ∨ its = 4 := by omega
        rcases this with z | z | z | z | z <;> (rw [z]; rfl)
      have hrt := tkm (s := s0) (tk := tkF t N) (nu := nuF t N) (nx := nxF t N) (o := 0) (f := f) (u := 0) (b' := 0) (tg := 9) (e := 0) (r := []) (pp := []) (v := []) (c := []) (L := (if its = 4 then [710] else if its = 3 then [325, 303] else [300 + its])) (by rw [← hs0, mv_71 (by decide) (show prd 0 (tkn (tkF t N) f (-1)) 700 = _ from hprd) rfl]; rfl) (by rw [← hs0]; show 1 ≤ 250; omega) p2 (prd_DrL hprd rfl)
      rw [List.append_nil] at hrt
      refine t_i1 (dc kc_X12_readLaw_0 31 rfl) (Nat.le_of_ble_eq_true rfl) rfl <| r_aload_n (dc kc_X12_readLaw_0 32 rfl) rfl <| s_iload_n (dc kc_X12_readLaw_0 33 rfl) rfl <| k_i (dc kc_X12_readLaw_0 34 rfl) rfl <| s_icmp_eq (tgt := 91) (dc kc_X12_readLaw_0 35 rfl) rfl (fun c75 => (k_i (dc kc_X12_readLaw_1 2 rfl) rfl <| ?_)) (fun c75 => (r_aload_n (dc kc_X12_readLaw_0 36 rfl) rfl <| s_getI (dc kc_X12_readLaw_0 37 rfl) fl_X12_303 <| k_b (dc kc_X12_readLaw_0 38 rfl) rfl <| s_icmp_ge (tgt := 91) (dc kc_X12_readLaw_0 39 rfl) rfl (fun c84 => (k_i (dc kc_X12_readLaw_1 2 rfl) rfl <| ?_)) (fun c84 => (k_i (dc kc_X12_readLaw_1 0 rfl) rfl <| s_goto (tgt := 92) (dc kc_X12_readLaw_1 1 rfl) rfl <| ?_))))
      · exfalso; omega
      · exfalso; omega
      · refine c_v1 (dc kc_X12_readLaw_1 3 rfl) cl_X12_187 rfl (Nat.le_of_ble_eq_true rfl) (Nat.zero_le _) (Nat.zero_le _) ?_
        refine t_mustA hL hP hA (by omega) (by omega) (fun m2 g2 h2 => ?_)
        have e17 := h2.b
        have q20 : m2 0 80 20 = mi 0 80 20 := g2.at (by simp [pTq])
        have q25 : m2 0 80 25 = mi 0 80 25 := g2.at (by simp [pTq])
        have q28 : m2 0 80 28 = mi 0 80 28 := g2.at (by simp [pTq])
        refine r_aload_n (dc kc_X12_readLaw_1 4 rfl) rfl <| s_getZ (dc kc_X12_readLaw_1 5 rfl) fl_X12_146 <| s_if_eq (tgt := 103) (dc kc_X12_readLaw_1 6 rfl) rfl (fun c99 => (?_)) (fun c99 => (s_return (dc kc_X12_readLaw_1 7 rfl) rfl (Nat.zero_le _) (Nat.zero_le _) ?_))
        · by_cases hdm : 59 ≤ (0 : Int) ∧ tkF t N (nxF t N f) ≠ 91 ∧ tkF t N (nxF t N f) ≠ 23
          · exfalso; omega
          · unfold Tko at h2
            rw [if_neg hdm] at h2
            exact aft m2 its _ 1 h04 (lw_Tq g2) h2 (by omega) (by omega) (by rw [g2.at (by simp [pTq])]; exact h19) (by omega) (by omega) (by omega) (hrt.2 hdm)
        · exfalso; omega
    · have hrf := rul_f (tk := tkF t N) (nu := nuF t N) (nx := nxF t N) (o := 0) (f := f) (u := 0) (b' := 0) (y := 700) (tg := 9) (e := 0) (r := []) (pp := []) (v := []) (c := []) (by decide) (by simp) (by omega) (by rw [prd_700, if_neg (by omega), if_neg (by omega), if_neg (by omega), if_neg (by omega), if_neg (by omega)])
      rw [hs0] at hrf
      have mus : Run (d+10) mt_X12_readLaw Q (n, mr, 0, 0) mi 91 [vR (some (0, 80)), vI its, vX 0] [vR (some (0, 80))] := by
        refine k_i (dc kc_X12_readLaw_1 2 rfl) rfl <| c_v1 (dc kc_X12_readLaw_1 3 rfl) cl_X12_187 rfl (Nat.le_of_ble_eq_true rfl) (Nat.zero_le _) (Nat.zero_le _) ?_
        refine t_mustF hL hA (fun m2 g2 h2 => ?_)
        have e17 := h2.1
        refine r_aload_n (dc kc_X12_readLaw_1 4 rfl) rfl <| s_getZ (dc kc_X12_readLaw_1 5 rfl) fl_X12_146 <| s_if_eq (tgt := 103) (dc kc_X12_readLaw_1 6 rfl) rfl (fun c99 => (?_)) (fun c99 => (s_return (dc kc_X12_readLaw_1 7 rfl) rfl (Nat.zero_le _) (Nat.zero_le _) ?_))
        · exfalso; omega
        · exact hQD m2 f (lw_Tq g2) ⟨Or.inr h2, by rw [g2.at (by simp [pTq])]; omega, by omega, by rw [g2.at (by simp [pTq])]; omega, fun z => by omega, by rw [g2.at (by simp [pTq])]; exact h25⟩ (hrf.mono (by omega))
      refine t_i1 (dc kc_X12_readLaw_0 31 rfl) (Nat.le_of_ble_eq_true rfl) rfl <| r_aload_n (dc kc_X12_readLaw_0 32 rfl) rfl <| s_iload_n (dc kc_X12_readLaw_0 33 rfl) rfl <| k_i (dc kc_X12_readLaw_0 34 rfl) rfl <| s_icmp_eq (tgt := 91) (dc kc_X12_readLaw_0 35 rfl) rfl (fun c75 => (?_)) (fun c75 => (r_aload_n (dc kc_X12_readLaw_0 36 rfl) rfl <| s_getI (dc kc_X12_readLaw_0 37 rfl) fl_X12_303 <| k_b (dc kc_X12_readLaw_0 38 rfl) rfl <| s_icmp_ge (tgt := 91) (dc kc_X12_readLaw_0 39 rfl) rfl (fun c84 => (?_)) (fun c84 => (k_i (dc kc_X12_readLaw_1 0 rfl) rfl <| s_goto (tgt := 92) (dc kc_X12_readLaw_1 1 rfl) rfl <| ?_))))
      all_goals first | exact mus | (exfalso; omega)
  refine tx_intro (ls := [vR (some (0, 80)), vX 0, vX 0]) om_X12_readLaw rfl (Nat.le_of_ble_eq_true rfl) ?_
  refine r_aload_n (dc kc_X12_readLaw_0 0 rfl) rfl <| k_j (dc kc_X12_readLaw_0 1 rfl) kj_X12_293 rfl (a := 403060) (by decide) <| c_v1r (dc kc_X12_readLaw_0 2 rfl) cl_X12_220 rfl (Nat.le_of_ble_eq_true rfl) (Nat.zero_le _) (Nat.zero_le _) <| t_isWord <| s_if_eqb (tgt := 14) (dc kc_X12_readLaw_0 3 rfl) rfl (fun c7 => (r_aload_n (dc kc_X12_readLaw_0 6 rfl) rfl <| k_j (dc kc_X12_readLaw_0 7 rfl) kj_X12_295 rfl (a := 679214) (by decide) <| c_v1r (dc kc_X12_readLaw_0 8 rfl) cl_X12_220 rfl (Nat.le_of_ble_eq_true rfl) (Nat.zero_le _) (Nat.zero_le _) <| t_isWord <| s_if_eqb (tgt := 28) (dc kc_X12_readLaw_0 9 rfl) rfl (fun c21 => (r_aload_n (dc kc_X12_readLaw_0 12 rfl) rfl <| k_j (dc kc_X12_readLaw_0 13 rfl) kj_X12_297 rfl (a := 599653) (by decide) <| c_v1r (dc kc_X12_readLaw_0 14 rfl) cl_X12_220 rfl (Nat.le_of_ble_eq_true rfl) (Nat.zero_le _) (Nat.zero_le _) <| t_isWord <| s_if_eqb (tgt := 42) (dc kc_X12_readLaw_0 15 rfl) rfl (fun c35 => (r_aload_n (dc kc_X12_readLaw_0 18 rfl) rfl <| k_j (dc kc_X12_readLaw_0 19 rfl) kj_X12_299 rfl (a := 1574484) (by decide) <| c_v1r (dc kc_X12_readLaw_0 20 rfl) cl_X12_220 rfl (Nat.le_of_ble_eq_true rfl) (Nat.zero_le _) (Nat.zero_le _) <| t_isWord <| s_if_eqb (tgt := 56) (dc kc_X12_readLaw_0 21 rfl) rfl (fun c49 => (r_aload_n (dc kc_X12_readLaw_0 24 rfl) rfl <| k_j (dc kc_X12_readLaw_0 25 rfl) kj_X12_301 rfl (a := 365744) (by decide) <| c_v1r (dc kc_X12_readLaw_0 26 rfl) cl_X12_220 rfl (Nat.le_of_ble_eq_true rfl) (Nat.zero_le _) (Nat.zero_le _) <| t_isWord <| s_if_eqb (tgt := 70) (dc kc_X12_readLaw_0 27 rfl) rfl (fun c63 => (k_i (dc kc_X12_readLaw_0 30 rfl) rfl <| ?_)) (fun c63 => (k_i (dc kc_X12_readLaw_0 28 rfl) rfl <| s_goto (tgt := 71) (dc kc_X12_readLaw_0 29 rfl) rfl <| ?_)))) (fun c49 => (k_i (dc kc_X12_readLaw_0 22 rfl) rfl <| s_goto (tgt := 71) (dc kc_X12_readLaw_0 23 rfl) rfl <| ?_)))) (fun c35 => (k_i (dc kc_X12_readLaw_0 16 rfl) rfl <| s_goto (tgt := 71) (dc kc_X12_readLaw_0 17 rfl) rfl <| ?_)))) (fun c21 => (k_i (dc kc_X12_readLaw_0 10 rfl) rfl <| s_goto (tgt := 71) (dc kc_X12_readLaw_0 11 rfl) rfl <| ?_)))) (fun c7 => (k_i (dc kc_X12_readLaw_0 4 rfl) rfl <| s_goto (tgt := 71) (dc kc_X12_readLaw_0 5 rfl) rfl <| ?_))
  · refine body _ (Or.inr ⟨rfl, fun z => ?_⟩)
    rcases z with z | z | z | z | z
    · exact c7 (w0.mpr z)
    · exact c21 (w1.mpr z)
    · exact c35 (w2.mpr z)
    · exact c49 (w3.mpr z)
    · exact c63 (w4.mpr z)
  · exact body 4 (Or.inl ⟨by omega, w4.mp c63⟩)
  · exact body 3 (Or.inl ⟨by omega, w3.mp c49⟩)
  · exact body 2 (Or.inl ⟨by omega, w2.mp c35⟩)
  · exact body 1 (Or.inl ⟨by omega, w1.mp c21⟩)
  · exact body 0 (Or.inl ⟨by omega, w0.mp c7⟩)
end RL2
