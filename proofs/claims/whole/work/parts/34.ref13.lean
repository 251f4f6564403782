/-! the reference: one step, walked -/
section REF13
variable {d n G : Nat} {mr : MR} {Q : V → MI → Nat → MR → Prop}
theorem step_l1 (hL : Lay G mr) {ρ : Int → Int} (hI : Inv0 ρ) (h17 : 0 < ρ 17) {mi0 : MI} {rc : Int} (hQ : ∀ mi' x4 x5 x6, Ch pS mi0 mi' → mi' 0 81 = stp6 ρ → Run (d+8) mt_X12_oneStep Q (n, mr, 0, 0) mi' 328 [vR (some (0, 80)), vI (ρ 0), vI (ρ 7), vI rc, x4, x5, x6] []) : ∀ i : Nat, i ≤ (ρ 16).toNat → ∀ mi x5 x6, Ch pS mi0 mi → mi 0 81 = f1 (stp5 ρ) (ρ 0) (hS ρ) i → Run (d+8) mt_X12_oneStep Q (n, mr, 0, 0) mi 228 [vR (some (0, 80)), vI (ρ 0), vI (ρ 7), vI rc, vI (i : Int), x5, x6] [] := by
  have h16 := hI.2.2.2.2.2.1
  have hlaw := hI.2.2.2.2.2.2.2.2.1
  have e16 := stp5_off hI h17 (k := 16) (by omega)
  have hV5 := stp5_VC hI h17
  have hhi5 : hiEq ρ (stp5 ρ) := fun k hk => stp5_off hI h17 (by omega)
  refine nloop ?_
  intro i hi ih mi x5 x6 hCh hrow
  have er16 : mi 0 81 16 = ρ 16 := by rw [hrow, f1_off (by omega), e16]
  by_cases he : (i : Int) < ρ 16
  · have hag : ag (clR (stp5 ρ)) (cel mi) := fun k h0 h1 => by
      show mi 0 81 (30 + k) = stp5 ρ (30 + k)
      rw [hrow, f1_off (by omega)]
    have hhi : hiEq ρ (mi 0 81) := fun k hk => by rw [hrow, f1_off (by omega)]; exact hhi5 k hk
    have hwl := hlaw i (by omega) he
    refine s_iload (dc kc_X12_oneStep_3 24 rfl) rfl <| r_aload_n (dc kc_X12_oneStep_3 25 rfl) rfl <| s_getA (dc kc_X12_oneStep_3 26 rfl) fl_X12_7 (ly_80_2 hL) <| k_b (dc kc_X12_oneStep_3 27 rfl) rfl <| s_iaload (dc kc_X12_oneStep_3 28 rfl) rfl (by first | omega | (simp [up] <;> omega)) (by first | omega | (simp [up] <;> omega)) <| s_icmp_ge (tgt := 328) (dc kc_X12_oneStep_3 29 rfl) rfl (fun c237 => (?_)) (fun c237 => (k_b (dc kc_X12_oneStep_3 30 rfl) rfl <| k_i (dc kc_X12_oneStep_3 31 rfl) rfl <| s_iload (dc kc_X12_oneStep_3 32 rfl) rfl <| b_imul (dc kc_X12_oneStep_3 33 rfl) (by first | omega | (simp [up] <;> omega)) (by first | omega | (simp [up] <;> omega)) <| b_iadd (dc kc_X12_oneStep_3 34 rfl) (by first | omega | (simp [up] <;> omega)) (by first | omega | (simp [up] <;> omega)) <| t_i5 (dc kc_X12_oneStep_3 35 rfl) (Nat.le_of_ble_eq_true rfl) rfl <| r_aload_n (dc kc_X12_oneStep_3 36 rfl) rfl <| s_iload (dc kc_X12_oneStep_3 37 rfl) rfl <| c_v1r (dc kc_X12_oneStep_3 38 rfl) cl_X12_371 rfl (Nat.le_of_ble_eq_true rfl) (Nat.zero_le _) (Nat.zero_le _) ?_))
    · exfalso; omega
    · refine t_doesHold hL (hV5.ag hag) (by omega) (by omega) (hwl.hi hhi (by omega)) (fun mi1 g1 => ?_)
      rw [lawC_hi hhi (by omega) (fun e => (hwl.2.2.1 e).1), valA_ag hV5 hag hwl.2.2.2, show valA (clR (stp5 ρ)) (lawC ρ i) = hS ρ i from rfl]
      have hrow1 : mi1 0 81 = f1 (stp5 ρ) (ρ 0) (hS ρ) i := by rw [g1.row (fun _ => rfl), hrow]
      have h01 : hS ρ i = 0 ∨ hS ρ i = 1 := (law_ev hV5 hwl.2.2.2).2.1
      have er0 : mi1 0 81 (110 + 3 * (i : Int)) = stp5 ρ (110 + 3 * (i : Int)) := by rw [hrow1, f1_off (by omega)]
      have er1 : ∀ v, up mi1 0 81 (110 + 3 * (i : Int)) v 0 81 (110 + 3 * (i : Int) + 1) = stp5 ρ (110 + 3 * (i : Int) + 1) := fun v => by rw [up_ud, ud_ne (by omega), hrow1, f1_off (by omega)]
      have fin : ∀ v0 v1, v0 = (if hS ρ i = 1 then -1 else if stp5 ρ (110 + 3 * (i : Int)) = -1 then ρ 0 else stp5 ρ (110 + 3 * (i : Int))) → v1 = (if hS ρ i = 1 then -1 else stp5 ρ (110 + 3 * (i : Int) + 1)) → ∀ x5 x6, Run (d+8) mt_X12_oneStep Q (n, mr, 0, 0) (up (up mi1 0 81 (110 + 3 * (i : Int)) v0) 0 81 (110 + 3 * (i : Int) + 1) v1) 228 [vR (some (0, 80)), vI (ρ 0), vI (ρ 7), vI rc, vI ((i : Int) + 1), x5, x6] [] := by
        intro v0 v1 e0 e1 x5 x6
        refine ih (by omega) _ _ _ (((hCh.tr (g1.mono pE_pS)).up rfl).up rfl) ?_
        rw [up_ud, up_ud, hrow1, show ((i + 1 : Nat) : Int) = (i : Int) + 1 by omega, f1_succ (by omega), ← e0, ← e1]
      refine t_i6 (dc kc_X12_oneStep_3 39 rfl) (Nat.le_of_ble_eq_true rfl) rfl <| r_aload_n (dc kc_X12_oneStep_4 0 rfl) rfl <| s_getA (dc kc_X12_oneStep_4 1 rfl) fl_X12_7 (ly_80_2 hL) <| s_iload (dc kc_X12_oneStep_4 2 rfl) rfl <| s_iload (dc kc_X12_oneStep_4 3 rfl) rfl <| s_if_eq (tgt := 272) (dc kc_X12_oneStep_4 4 rfl) rfl (fun c265 => (r_aload_n (dc kc_X12_oneStep_4 7 rfl) rfl <| s_getA (dc kc_X12_oneStep_4 8 rfl) fl_X12_7 (ly_80_2 hL) <| s_iload (dc kc_X12_oneStep_4 9 rfl) rfl <| s_iaload (dc kc_X12_oneStep_4 10 rfl) rfl (by first | omega | (simp [up] <;> omega)) (by first | omega | (simp [up] <;> omega)) <| k_i (dc kc_X12_oneStep_4 11 rfl) rfl <| s_icmp_ne (tgt := 287) (dc kc_X12_oneStep_4 12 rfl) rfl (fun c280 => (r_aload_n (dc kc_X12_oneStep_4 15 rfl) rfl <| s_getA (dc kc_X12_oneStep_4 16 rfl) fl_X12_7 (ly_80_2 hL) <| s_iload (dc kc_X12_oneStep_4 17 rfl) rfl <| s_iaload (dc kc_X12_oneStep_4 18 rfl) rfl (by first | omega | (simp [up] <;> omega)) (by first | omega | (simp [up] <;> omega)) <| s_iastore (dc kc_X12_oneStep_4 19 rfl) rfl (by first | omega | (simp [up] <;> omega)) (by first | omega | (simp [up] <;> omega)) <| r_aload_n (dc kc_X12_oneStep_4 20 rfl) rfl <| s_getA (dc kc_X12_oneStep_4 21 rfl) fl_X12_7 (ly_80_2 hL) <| s_iload (dc kc_X12_oneStep_4 22 rfl) rfl <| k_i (dc kc_X12_oneStep_4 23 rfl) rfl <| b_iadd (dc kc_X12_oneStep_4 24 rfl) (by first | omega | (simp [up] <;> omega)) (by first | omega | (simp [up] <;> omega)) <| s_iload (dc kc_X12_oneStep_4 25 rfl) rfl <| s_if_eq (tgt := 312) (dc kc_X12_oneStep_4 26 rfl) rfl (fun c305 => (r_aload_n (dc kc_X12_oneStep_4 29 rfl) rfl <| s_getA (dc kc_X12_oneStep_4 30 rfl) fl_X12_7 (ly_80_2 hL) <| s_iload (dc kc_X12_oneStep_4 31 rfl) rfl <| k_i (dc kc_X12_oneStep_4 32 rfl) rfl <| b_iadd (dc kc_X12_oneStep_4 33 rfl) (by first | omega | (simp [up] <;> omega)) (by first | omega | (simp [up] <;> omega)) <| s_iaload (dc kc_X12_oneStep_4 34 rfl) rfl (by first | omega | (simp [up] <;> omega)) (by first | omega | (simp [up] <;> omega)) <| s_iastore (dc kc_X12_oneStep_4 35 rfl) rfl (by first | omega | (simp [up] <;> omega)) (by first | omega | (simp [up] <;> omega)) <| b_inc4 (dc kc_X12_oneStep_4 36 rfl) rfl (Nat.le_of_ble_eq_true rfl) rfl (by first | omega | (simp [up] <;> omega)) (by first | omega | (simp [up] <;> omega)) <| s_goto (tgt := 228) (dc kc_X12_oneStep_4 37 rfl) rfl <| ?_)) (fun c305 => (k_i (dc kc_X12_oneStep_4 27 rfl) rfl <| s_goto (tgt := 321) (dc kc_X12_oneStep_4 28 rfl) rfl <| s_iastore (dc kc_X12_oneStep_4 35 rfl) rfl (by first | omega | (simp [up] <;> omega)) (by first | omega | (simp [up] <;> omega)) <| b_inc4 (dc kc_X12_oneStep_4 36 rfl) rfl (Nat.le_of_ble_eq_true rfl) rfl (by first | omega | (simp [up] <;> omega)) (by first | omega | (simp [up] <;> omega)) <| s_goto (tgt := 228) (dc kc_X12_oneStep_4 37 rfl) rfl <| ?_)))) (fun c280 => (s_iload_n (dc kc_X12_oneStep_4 13 rfl) rfl <| s_goto (tgt := 294) (dc kc_X12_oneStep_4 14 rfl) rfl <| s_iastore (dc kc_X12_oneStep_4 19 rfl) rfl (by first | omega | (simp [up] <;> omega)) (by first | omega | (simp [up] <;> omega)) <| r_aload_n (dc kc_X12_oneStep_4 20 rfl) rfl <| s_getA (dc kc_X12_oneStep_4 21 rfl) fl_X12_7 (ly_80_2 hL) <| s_iload (dc kc_X12_oneStep_4 22 rfl) rfl <| k_i (dc kc_X12_oneStep_4 23 rfl) rfl <| b_iadd (dc kc_X12_oneStep_4 24 rfl) (by first | omega | (simp [up] <;> omega)) (by first | omega | (simp [up] <;> omega)) <| s_iload (dc kc_X12_oneStep_4 25 rfl) rfl <| s_if_eq (tgt := 312) (dc kc_X12_oneStep_4 26 rfl) rfl (fun c305 => (r_aload_n (dc kc_X12_oneStep_4 29 rfl) rfl <| s_getA (dc kc_X12_oneStep_4 30 rfl) fl_X12_7 (ly_80_2 hL) <| s_iload (dc kc_X12_oneStep_4 31 rfl) rfl <| k_i (dc kc_X12_oneStep_4 32 rfl) rfl <| b_iadd (dc kc_X12_oneStep_4 33 rfl) (by first | omega | (simp [up] <;> omega)) (by first | omega | (simp [up] <;> omega)) <| s_iaload (dc kc_X12_oneStep_4 34 rfl) rfl (by first | omega | (simp [up] <;> omega)) (by first | omega | (simp [up] <;> omega)) <| s_iastore (dc kc_X12_oneStep_4 35 rfl) rfl (by first | omega | (simp [up] <;> omega)) (by first | omega | (simp [up] <;> omega)) <| b_inc4 (dc kc_X12_oneStep_4 36 rfl) rfl (Nat.le_of_ble_eq_true rfl) rfl (by first | omega | (simp [up] <;> omega)) (by first | omega | (simp [up] <;> omega)) <| s_goto (tgt := 228) (dc kc_X12_oneStep_4 37 rfl) rfl <| ?_)) (fun c305 => (k_i (dc kc_X12_oneStep_4 27 rfl) rfl <| s_goto (tgt := 321) (dc kc_X12_oneStep_4 28 rfl) rfl <| s_iastore (dc kc_X12_oneStep_4 35 rfl) rfl (by first | omega | (simp [up] <;> omega)) (by first | omega | (simp [up] <;> omega)) <| b_inc4 (dc kc_X12_oneStep_4 36 rfl) rfl (Nat.le_of_ble_eq_true rfl) rfl (by first | omega | (simp [up] <;> omega)) (by first | omega | (simp [up] <;> omega)) <| s_goto (tgt := 228) (dc kc_X12_oneStep_4 37 rfl) rfl <| ?_)))))) (fun c265 => (k_i (dc kc_X12_oneStep_4 5 rfl) rfl <| s_goto (tgt := 294) (dc kc_X12_oneStep_4 6 rfl) rfl <| s_iastore (dc kc_X12_oneStep_4 19 rfl) rfl (by first | omega | (simp [up] <;> omega)) (by first | omega | (simp [up] <;> omega)) <| r_aload_n (dc kc_X12_oneStep_4 20 rfl) rfl <| s_getA (dc kc_X12_oneStep_4 21 rfl) fl_X12_7 (ly_80_2 hL) <| s_iload (dc kc_X12_oneStep_4 22 rfl) rfl <| k_i (dc kc_X12_oneStep_4 23 rfl) rfl <| b_iadd (dc kc_X12_oneStep_4 24 rfl) (by first | omega | (simp [up] <;> omega)) (by first | omega | (simp [up] <;> omega)) <| s_iload (dc kc_X12_oneStep_4 25 rfl) rfl <| s_if_eq (tgt := 312) (dc kc_X12_oneStep_4 26 rfl) rfl (fun c305 => (r_aload_n (dc kc_X12_oneStep_4 29 rfl) rfl <| s_getA (dc kc_X12_oneStep_4 30 rfl) fl_X12_7 (ly_80_2 hL) <| s_iload (dc kc_X12_oneStep_4 31 rfl) rfl <| k_i (dc kc_X12_oneStep_4 32 rfl) rfl <| b_iadd (dc kc_X12_oneStep_4 33 rfl) (by first | omega | (simp [up] <;> omega)) (by first | omega | (simp [up] <;> omega)) <| s_iaload (dc kc_X12_oneStep_4 34 rfl) rfl (by first | omega | (simp [up] <;> omega)) (by first | omega | (simp [up] <;> omega)) <| s_iastore (dc kc_X12_oneStep_4 35 rfl) rfl (by first | omega | (simp [up] <;> omega)) (by first | omega | (simp [up] <;> omega)) <| b_inc4 (dc kc_X12_oneStep_4 36 rfl) rfl (Nat.le_of_ble_eq_true rfl) rfl (by first | omega | (simp [up] <;> omega)) (by first | omega | (simp [up] <;> omega)) <| s_goto (tgt := 228) (dc kc_X12_oneStep_4 37 rfl) rfl <| ?_)) (fun c305 => (k_i (dc kc_X12_oneStep_4 27 rfl) rfl <| s_goto (tgt := 321) (dc kc_X12_oneStep_4 28 rfl) rfl <| s_iastore (dc kc_X12_oneStep_4 35 rfl) rfl (by first | omega | (simp [up] <;> omega)) (by first | omega | (simp [up] <;> omega)) <| b_inc4 (dc kc_X12_oneStep_4 36 rfl) rfl (Nat.le_of_ble_eq_true rfl) rfl (by first | omega | (simp [up] <;> omega)) (by first | omega | (simp [up] <;> omega)) <| s_goto (tgt := 228) (dc kc_X12_oneStep_4 37 rfl) rfl <| ?_))))
      all_goals first | (exfalso; omega) | skip
      · rw [er0, er1]; exact fin _ _ (by rw [if_neg (by omega), if_neg (by rw [er0] at c280; exact c280)]) (by rw [if_neg (by omega)]) _ _
      · rw [er1]; exact fin _ _ (by rw [if_neg (by omega), if_pos (by rw [er0] at c280; exact c280)]) (by rw [if_neg (by omega)]) _ _
      · exact fin _ _ (by rw [if_pos (by omega)]) (by rw [if_pos (by omega)]) _ _
  · refine s_iload (dc kc_X12_oneStep_3 24 rfl) rfl <| r_aload_n (dc kc_X12_oneStep_3 25 rfl) rfl <| s_getA (dc kc_X12_oneStep_3 26 rfl) fl_X12_7 (ly_80_2 hL) <| k_b (dc kc_X12_oneStep_3 27 rfl) rfl <| s_iaload (dc kc_X12_oneStep_3 28 rfl) rfl (by first | omega | (simp [up] <;> omega)) (by first | omega | (simp [up] <;> omega)) <| s_icmp_ge (tgt := 328) (dc kc_X12_oneStep_3 29 rfl) rfl (fun c237 => (?_)) (fun c237 => (?_))
    · refine hQ mi _ _ _ hCh ?_
      rw [hrow]
      unfold stp6
      rw [show (i : Int) = ρ 16 by omega]
    · exfalso; omega
theorem step_l2 (hL : Lay G mr) {ρ : Int → Int} (hI : Inv0 ρ) (h17 : 0 < ρ 17) {mi0 : MI} {rest : Int} (hrest : rest = rstI ρ) (hQ : ∀ mi' x5 x6, Ch pS mi0 mi' → mi' 0 81 = stp7 ρ → Run (d+8) mt_X12_oneStep Q (n, mr, 0, 0) mi' 484 [vR (some (0, 80)), vI (ρ 0), vI (ρ 7), vI (rcS ρ), vI rest, x5, x6] []) : ∀ i : Nat, i ≤ (ρ 16).toNat → ∀ mi x6, Ch pS mi0 mi → mi 0 81 = (if rest = 1 then stp6 ρ else f2 (stp6 ρ) (ρ 0) (hS ρ) (aS ρ) i) → Run (d+8) mt_X12_oneStep Q (n, mr, 0, 0) mi 375 [vR (some (0, 80)), vI (ρ 0), vI (ρ 7), vI (rcS ρ), vI rest, vI (i : Int), x6] [] := by
  have h16 := hI.2.2.2.2.2.1
  have hlaw := hI.2.2.2.2.2.2.2.2.1
  have h0 := hI.2.1
  have hlin := hI.2.2.2.2.2.2.2.2.2 _ hI.2.2.1.1 (hI.2.2.1.2 h17)
  have hV5 := stp5_VC hI h17
  have hhi5 : hiEq ρ (stp5 ρ) := fun k hk => stp5_off hI h17 (by omega)
  have h01 : rest = 0 ∨ rest = 1 := by rw [hrest]; exact bi_01
  have e6off : ∀ k, k < 110 ∨ 146 ≤ k → stp6 ρ k = stp5 ρ k := fun k hk => f1_off (by omega)
  refine nloop ?_
  intro i hi ih mi x6 hCh hrow
  have low : ∀ k, k ≠ 6 → (k < 110 ∨ 146 ≤ k) → mi 0 81 k = stp5 ρ k := fun k h6 hk => by
    rw [hrow]
    rcases h01 with e | e
    · rw [if_neg (by omega), f2_off h6 (by omega), e6off k hk]
    · rw [if_pos e, e6off k hk]
  have er16 : mi 0 81 16 = ρ 16 := by rw [low 16 (by omega) (by omega)]; exact stp5_off hI h17 (by omega)
  have er11 : mi 0 81 11 = ρ 11 := by rw [low 11 (by omega) (by omega)]; exact stp5_off hI h17 (by omega)
  have hhi : hiEq ρ (mi 0 81) := fun k hk => by rw [low k (by omega) (by omega)]; exact hhi5 k hk
  have hag : ag (clR (stp5 ρ)) (cel mi) := fun k g0 g1 => low (30 + k) (by omega) (by omega)
  by_cases he : (i : Int) < ρ 16 ∧ rest = 0
  · have hwl := hlaw i (by omega) he.1
    rw [if_neg (by omega)] at hrow
    have tgh := tgtOf_hi hhi (j := ρ 7) hI.2.2.1.1
    have lch := lawC_hi hhi (l := i) (by omega) (fun e => (hwl.2.2.1 e).1)
    have ev : valA (cel mi) (lawC (mi 0 81) i) = hS ρ i := by rw [lch, valA_ag hV5 hag hwl.2.2.2]; rfl
    have yes : ∀ x6, aS ρ i = 1 → Run (d+8) mt_X12_oneStep Q (n, mr, 0, 0) mi 471 [vR (some (0, 80)), vI (ρ 0), vI (ρ 7), vI (rcS ρ), vI rest, vI (i : Int), x6] [] := by
      intro x6 ha
      refine r_aload_n (dc kc_X12_oneStep_6 37 rfl) rfl <| s_iload (dc kc_X12_oneStep_6 38 rfl) rfl <| s_iload_n (dc kc_X12_oneStep_6 39 rfl) rfl <| c_v2 (dc kc_X12_oneStep_7 0 rfl) cl_X12_430 rfl (Nat.le_of_ble_eq_true rfl) (Nat.zero_le _) (Nat.zero_le _) ?_
      refine t_ask hL (hV5.ag hag) (by omega) (by omega) (hwl.hi hhi (by omega)) ev.symm (fun mi1 g1 e1 => ?_)
      refine b_inc5 (dc kc_X12_oneStep_7 1 rfl) rfl (Nat.le_of_ble_eq_true rfl) rfl (by first | omega | (simp [up] <;> omega)) (by first | omega | (simp [up] <;> omega)) <| s_goto (tgt := 375) (dc kc_X12_oneStep_7 2 rfl) rfl <| ?_
      refine ih (by omega) _ _ (hCh.tr g1) ?_
      rw [if_neg (by omega), e1, hrow, f2_yes aS01 ha]
    have no : ∀ x6, aS ρ i = 0 → Run (d+8) mt_X12_oneStep Q (n, mr, 0, 0) mi 478 [vR (some (0, 80)), vI (ρ 0), vI (ρ 7), vI (rcS ρ), vI rest, vI (i : Int), x6] [] := by
      intro x6 ha
      refine b_inc5 (dc kc_X12_oneStep_7 1 rfl) rfl (Nat.le_of_ble_eq_true rfl) rfl (by first | omega | (simp [up] <;> omega)) (by first | omega | (simp [up] <;> omega)) <| s_goto (tgt := 375) (dc kc_X12_oneStep_7 2 rfl) rfl <| ?_
      refine ih (by omega) _ _ hCh ?_
      rw [if_neg (by omega), hrow, f2_no ha]
    have mid : ∀ b, b = bi (rcS ρ ≠ 1 ∧ rcS ρ ≠ 2 ∧ tgtOf ρ (ρ 7) ∈ needL (lawC ρ i)) → Run (d+8) mt_X12_oneStep Q (n, mr, 0, 0) mi 417 [vR (some (0, 80)), vI (ρ 0), vI (ρ 7), vI (rcS ρ), vI rest, vI (i : Int), x6] [vI b] := by
      intro b eb
      have ha : ∀ q : Prop, (q ↔ (ρ 11 = 3 ∨ (ρ 11 = 1 ∧ b ≠ 0) ∨ (ρ 11 = 2 ∧ (i : Int) = ρ 0 % ρ 16))) → (q → aS ρ i = 1) ∧ (¬ q → aS ρ i = 0) := by
        intro q hq
        have : aS ρ i = bi (ρ 11 = 3 ∨ (ρ 11 = 1 ∧ b ≠ 0) ∨ (ρ 11 = 2 ∧ (i : Int) = ρ 0 % ρ 16)) := by
          unfold aS
          refine bi_congr ?_
          rw [eb, bi_ne0]
        rw [this]
        exact ⟨fun h => bi_t (hq.mp h), fun h => bi_f (fun z => h (hq.mpr z))⟩
      have ha := ha _ Iff.rfl
      have e16m : ρ 0 % mi 0 81 16 = ρ 0 % ρ 16 := by rw [er16]
      refine t_i6 (dc kc_X12_oneStep_6 8 rfl) (Nat.le_of_ble_eq_true rfl) rfl <| r_aload_n (dc kc_X12_oneStep_6 9 rfl) rfl <| s_getA (dc kc_X12_oneStep_6 10 rfl) fl_X12_7 (ly_80_2 hL) <| k_b (dc kc_X12_oneStep_6 11 rfl) rfl <| s_iaload (dc kc_X12_oneStep_6 12 rfl) rfl (by first | omega | (simp [up] <;> omega)) (by first | omega | (simp [up] <;> omega)) <| k_i (dc kc_X12_oneStep_6 13 rfl) rfl <| s_icmp_eq (tgt := 471) (dc kc_X12_oneStep_6 14 rfl) rfl (fun c427 => (?_)) (fun c427 => (r_aload_n (dc kc_X12_oneStep_6 15 rfl) rfl <| s_getA (dc kc_X12_oneStep_6 16 rfl) fl_X12_7 (ly_80_2 hL) <| k_b (dc kc_X12_oneStep_6 17 rfl) rfl <| s_iaload (dc kc_X12_oneStep_6 18 rfl) rfl (by first | omega | (simp [up] <;> omega)) (by first | omega | (simp [up] <;> omega)) <| k_i (dc kc_X12_oneStep_6 19 rfl) rfl <| s_icmp_ne (tgt := 446) (dc kc_X12_oneStep_6 20 rfl) rfl (fun c438 => (r_aload_n (dc kc_X12_oneStep_6 23 rfl) rfl <| s_getA (dc kc_X12_oneStep_6 24 rfl) fl_X12_7 (ly_80_2 hL) <| k_b (dc kc_X12_oneStep_6 25 rfl) rfl <| s_iaload (dc kc_X12_oneStep_6 26 rfl) rfl (by first | omega | (simp [up] <;> omega)) (by first | omega | (simp [up] <;> omega)) <| k_i (dc kc_X12_oneStep_6 27 rfl) rfl <| s_icmp_ne (tgt := 478) (dc kc_X12_oneStep_6 28 rfl) rfl (fun c454 => (?_)) (fun c454 => (s_iload (dc kc_X12_oneStep_6 29 rfl) rfl <| s_iload_n (dc kc_X12_oneStep_6 30 rfl) rfl <| r_aload_n (dc kc_X12_oneStep_6 31 rfl) rfl <| s_getA (dc kc_X12_oneStep_6 32 rfl) fl_X12_7 (ly_80_2 hL) <| k_b (dc kc_X12_oneStep_6 33 rfl) rfl <| s_iaload (dc kc_X12_oneStep_6 34 rfl) rfl (by first | omega | (simp [up] <;> omega)) (by first | omega | (simp [up] <;> omega)) <| b_irem (dc kc_X12_oneStep_6 35 rfl) (by first | omega | (simp [up] <;> omega)) (by first | omega | (simp [up] <;> omega)) <| s_icmp_ne (tgt := 478) (dc kc_X12_oneStep_6 36 rfl) rfl (fun c468 => (?_)) (fun c468 => (?_)))))) (fun c438 => (s_iload (dc kc_X12_oneStep_6 21 rfl) rfl <| s_if_ne (tgt := 471) (dc kc_X12_oneStep_6 22 rfl) rfl (fun c443 => (?_)) (fun c443 => (r_aload_n (dc kc_X12_oneStep_6 23 rfl) rfl <| s_getA (dc kc_X12_oneStep_6 24 rfl) fl_X12_7 (ly_80_2 hL) <| k_b (dc kc_X12_oneStep_6 25 rfl) rfl <| s_iaload (dc kc_X12_oneStep_6 26 rfl) rfl (by first | omega | (simp [up] <;> omega)) (by first | omega | (simp [up] <;> omega)) <| k_i (dc kc_X12_oneStep_6 27 rfl) rfl <| s_icmp_ne (tgt := 478) (dc kc_X12_oneStep_6 28 rfl) rfl (fun c454 => (?_)) (fun c454 => (s_iload (dc kc_X12_oneStep_6 29 rfl) rfl <| s_iload_n (dc kc_X12_oneStep_6 30 rfl) rfl <| r_aload_n (dc kc_X12_oneStep_6 31 rfl) rfl <| s_getA (dc kc_X12_oneStep_6 32 rfl) fl_X12_7 (ly_80_2 hL) <| k_b (dc kc_X12_oneStep_6 33 rfl) rfl <| s_iaload (dc kc_X12_oneStep_6 34 rfl) rfl (by first | omega | (simp [up] <;> omega)) (by first | omega | (simp [up] <;> omega)) <| b_irem (dc kc_X12_oneStep_6 35 rfl) (by first | omega | (simp [up] <;> omega)) (by first | omega | (simp [up] <;> omega)) <| s_icmp_ne (tgt := 478) (dc kc_X12_oneStep_6 36 rfl) rfl (fun c468 => (?_)) (fun c468 => (?_))))))))))
      all_goals first | exact yes _ (ha.1 (by omega)) | exact no _ (ha.2 (by omega))
    refine s_iload (dc kc_X12_oneStep_5 26 rfl) rfl <| r_aload_n (dc kc_X12_oneStep_5 27 rfl) rfl <| s_getA (dc kc_X12_oneStep_5 28 rfl) fl_X12_7 (ly_80_2 hL) <| k_b (dc kc_X12_oneStep_5 29 rfl) rfl <| s_iaload (dc kc_X12_oneStep_5 30 rfl) rfl (by first | omega | (simp [up] <;> omega)) (by first | omega | (simp [up] <;> omega)) <| s_icmp_ge (tgt := 484) (dc kc_X12_oneStep_5 31 rfl) rfl (fun c384 => (?_)) (fun c384 => (s_iload (dc kc_X12_oneStep_5 32 rfl) rfl <| s_if_ne (tgt := 484) (dc kc_X12_oneStep_5 33 rfl) rfl (fun c389 => (?_)) (fun c389 => (s_iload_n (dc kc_X12_oneStep_5 34 rfl) rfl <| k_i (dc kc_X12_oneStep_5 35 rfl) rfl <| s_icmp_eq (tgt := 416) (dc kc_X12_oneStep_5 36 rfl) rfl (fun c394 => (k_i (dc kc_X12_oneStep_6 7 rfl) rfl <| ?_)) (fun c394 => (s_iload_n (dc kc_X12_oneStep_5 37 rfl) rfl <| k_i (dc kc_X12_oneStep_5 38 rfl) rfl <| s_icmp_eq (tgt := 416) (dc kc_X12_oneStep_5 39 rfl) rfl (fun c399 => (k_i (dc kc_X12_oneStep_6 7 rfl) rfl <| ?_)) (fun c399 => (?_))))))))
    all_goals first | (exfalso; omega) | skip
    · exact mid 0 (by rw [bi_f]; omega)
    · exact mid 0 (by rw [bi_f]; omega)
    · refine r_aload_n (dc kc_X12_oneStep_6 0 rfl) rfl <| s_iload_n (dc kc_X12_oneStep_6 1 rfl) rfl <| s_iload (dc kc_X12_oneStep_6 2 rfl) rfl <| c_v2r (dc kc_X12_oneStep_6 3 rfl) cl_X12_383 rfl (Nat.le_of_ble_eq_true rfl) (Nat.zero_le _) (Nat.zero_le _) ?_
      refine t_bearsOn hL (by omega) (by omega) (hwl.hi hhi (by omega)) hI.2.2.1.1 (by have := hI.2.2.1.2 h17; have := hI.2.2.2.2.2.2.1; omega) (hlin.hi hhi hI.2.2.1.1).1 ?_
      rw [tgh, lch]
      refine s_if_eq (tgt := 416) (dc kc_X12_oneStep_6 4 rfl) rfl (fun c409 => (k_i (dc kc_X12_oneStep_6 7 rfl) rfl <| ?_)) (fun c409 => (k_i (dc kc_X12_oneStep_6 5 rfl) rfl <| s_goto (tgt := 417) (dc kc_X12_oneStep_6 6 rfl) rfl <| ?_))
      · exact mid 0 (by rw [bi_f]; exact fun z => bi_eq0.mp c409 z.2.2)
      · exact mid 1 (by rw [bi_t]; exact ⟨c394, c399, bi_ne0.mp c409⟩)
  · have hfin : ∀ x5 x6, Run (d+8) mt_X12_oneStep Q (n, mr, 0, 0) mi 484 [vR (some (0, 80)), vI (ρ 0), vI (ρ 7), vI (rcS ρ), vI rest, x5, x6] [] := by
      intro x5 x6
      refine hQ mi x5 x6 hCh ?_
      unfold stp7
      rw [hrow, ← hrest]
      by_cases e : rest = 1
      · rw [if_pos e, if_pos e]
      · rw [if_neg e, if_neg e, show i = (ρ 16).toNat by omega]
    refine s_iload (dc kc_X12_oneStep_5 26 rfl) rfl <| r_aload_n (dc kc_X12_oneStep_5 27 rfl) rfl <| s_getA (dc kc_X12_oneStep_5 28 rfl) fl_X12_7 (ly_80_2 hL) <| k_b (dc kc_X12_oneStep_5 29 rfl) rfl <| s_iaload (dc kc_X12_oneStep_5 30 rfl) rfl (by first | omega | (simp [up] <;> omega)) (by first | omega | (simp [up] <;> omega)) <| s_icmp_ge (tgt := 484) (dc kc_X12_oneStep_5 31 rfl) rfl (fun c384 => (?_)) (fun c384 => (s_iload (dc kc_X12_oneStep_5 32 rfl) rfl <| s_if_ne (tgt := 484) (dc kc_X12_oneStep_5 33 rfl) rfl (fun c389 => (?_)) (fun c389 => (?_))))
    · exact hfin _ _
    · exact hfin _ _
    · exfalso; omega
theorem t_oneStep (hL : Lay G mr) {mi : MI} (hI : Inv0 (mi 0 81)) (h17 : 0 < mi 0 81 17) (hQ : ∀ mi', Ch pS mi mi' → mi' 0 81 = stpR (mi 0 81) → Q (vX 0) mi' n mr) : Tx (d+8) mt_X12_oneStep [vR (some (0, 80))] mi n mr Q := by
  refine tx_intro (ls := [vR (some (0, 80)), vX 0, vX 0, vX 0, vX 0, vX 0, vX 0]) om_X12_oneStep rfl (Nat.le_of_ble_eq_true rfl) ?_
  generalize hρ : mi 0 81 = ρ at *
  have h0 := hI.2.1
  have h7 := hI.2.2.1
  have h8 := hI.2.2.2.1
  have h16 := hI.2.2.2.2.2.1
  have h17' := hI.2.2.2.2.2.2.1
  have h18 := hI.2.2.2.2.2.2.2.1
  have hw := hI.2.2.2.2.2.2.2.2.2 _ h7.1 (h7.2 h17)
  have e0 : mi 0 81 0 = ρ 0 := by rw [hρ]
  have e7 : mi 0 81 7 = ρ 7 := by rw [hρ]
  have hm7 := h7.2 h17
  refine r_aload_n (dc kc_X12_oneStep_0 0 rfl) rfl <| s_getA (dc kc_X12_oneStep_0 1 rfl) fl_X12_7 (ly_80_2 hL) <| k_i (dc kc_X12_oneStep_0 2 rfl) rfl <| s_iaload (dc kc_X12_oneStep_0 3 rfl) rfl (by first | omega | (simp [up] <;> omega)) (by first | omega | (simp [up] <;> omega)) <| t_i1 (dc kc_X12_oneStep_0 4 rfl) (Nat.le_of_ble_eq_true rfl) rfl <| r_aload_n (dc kc_X12_oneStep_0 5 rfl) rfl <| s_getA (dc kc_X12_oneStep_0 6 rfl) fl_X12_7 (ly_80_2 hL) <| k_b (dc kc_X12_oneStep_0 7 rfl) rfl <| s_iaload (dc kc_X12_oneStep_0 8 rfl) rfl (by first | omega | (simp [up] <;> omega)) (by first | omega | (simp [up] <;> omega)) <| t_i2 (dc kc_X12_oneStep_0 9 rfl) (Nat.le_of_ble_eq_true rfl) rfl <| r_aload_n (dc kc_X12_oneStep_0 10 rfl) rfl <| s_iload_n (dc kc_X12_oneStep_0 11 rfl) rfl <| s_iload_n (dc kc_X12_oneStep_0 12 rfl) rfl <| k_i (dc kc_X12_oneStep_0 13 rfl) rfl <| c_v3r (dc kc_X12_oneStep_0 14 rfl) cl_X12_423 rfl (Nat.le_of_ble_eq_true rfl) (Nat.zero_le _) (Nat.zero_le _) ?_
  rw [e0, e7]
  refine t_doLine hL (by rw [show cel mi = clR ρ by unfold cel; rw [hρ]]; exact hI.1) h7.1 (by omega) (by rw [hρ]; exact hw) (by rw [hρ]; exact h8.1) (by rw [hρ]; exact h8.2) (fun mi1 g1 e1 e31 => ?_)
  rw [hρ] at e1 e31 ⊢
  rw [show rcO (lnO ρ (ρ 7)) = rcS ρ from rfl]
  rw [show lnR ρ (ρ 7) (ρ 0) 0 = stp1 ρ from rfl] at e1
  have e117 : mi1 0 81 17 = ρ 17 := by rw [e1]; exact lnR_off hI.1 hw h8.1 h8.2 (by omega)
  have gS := g1.mono pD_pS
  have hrc : (rcS ρ = 4 ↔ (lnO ρ (ρ 7)).1 ≠ 0 ∧ (lnO ρ (ρ 7)).1 ≠ 1 ∧ (lnO ρ (ρ 7)).1 ≠ 2) := by
    unfold rcS rcO
    split
    · omega
    · split
      · omega
      · split <;> omega
  -- the last: asks
  have st7 : ∀ mi2 x4 x5 x6, Ch pS mi mi2 → mi2 0 81 = stp6 ρ → Run (d+8) mt_X12_oneStep Q (n, mr, 0, 0) mi2 328 [vR (some (0, 80)), vI (ρ 0), vI (ρ 7), vI (rcS ρ), x4, x5, x6] [] := by
    intro mi2 x4 x5 x6 g2 e2
    have e12 : mi2 0 81 12 = ρ 12 := by rw [e2]; unfold stp6; rw [f1_off (by omega)]; exact stp5_off hI h17 (by omega)
    have e13 : mi2 0 81 13 = ρ 13 := by rw [e2]; unfold stp6; rw [f1_off (by omega)]; exact stp5_off hI h17 (by omega)
    have fin : ∀ rest, rest = rstI ρ → ∀ x5 x6, Run (d+8) mt_X12_oneStep Q (n, mr, 0, 0) mi2 370 [vR (some (0, 80)), vI (ρ 0), vI (ρ 7), vI (rcS ρ), x4, x5, x6] [vI rest] := by
      intro rest er x5 x6
      refine t_i4 (dc kc_X12_oneStep_5 23 rfl) (Nat.le_of_ble_eq_true rfl) rfl <| k_i (dc kc_X12_oneStep_5 24 rfl) rfl <| t_i5 (dc kc_X12_oneStep_5 25 rfl) (Nat.le_of_ble_eq_true rfl) rfl <| ?_
      refine step_l2 hL hI h17 (mi0 := mi) er (fun mi3 y5 y6 g3 e3 => ?_) 0 (Nat.zero_le _) mi2 _ g2 ?_
      · have e30 : mi3 0 81 0 = ρ 0 := by
          rw [e3]
          unfold stp7
          split
          · unfold stp6; rw [f1_off (by omega)]; exact stp5_off hI h17 (by omega)
          · rw [f2_off (by omega) (by omega)]; unfold stp6; rw [f1_off (by omega)]; exact stp5_off hI h17 (by omega)
        refine r_aload_n (dc kc_X12_oneStep_7 3 rfl) rfl <| s_getA (dc kc_X12_oneStep_7 4 rfl) fl_X12_7 (ly_80_2 hL) <| k_i (dc kc_X12_oneStep_7 5 rfl) rfl <| s_dup2 (dc kc_X12_oneStep_7 6 rfl) rfl rfl <| s_iaload (dc kc_X12_oneStep_7 7 rfl) rfl (by first | omega | (simp [up] <;> omega)) (by first | omega | (simp [up] <;> omega)) <| k_i (dc kc_X12_oneStep_7 8 rfl) rfl <| b_iadd (dc kc_X12_oneStep_7 9 rfl) (by first | omega | (simp [up] <;> omega)) (by first | omega | (simp [up] <;> omega)) <| s_iastore (dc kc_X12_oneStep_7 10 rfl) rfl (by first | omega | (simp [up] <;> omega)) (by first | omega | (simp [up] <;> omega)) <| s_return (dc kc_X12_oneStep_7 11 rfl) rfl (Nat.zero_le _) (Nat.zero_le _) ?_
        refine hQ _ (g3.up rfl) ?_
        rw [up_ud, e30, e3]
        rfl
      · rw [f2_0, e2]
        split <;> rfl
    refine r_aload_n (dc kc_X12_oneStep_4 38 rfl) rfl <| s_getA (dc kc_X12_oneStep_4 39 rfl) fl_X12_7 (ly_80_2 hL) <| k_b (dc kc_X12_oneStep_5 0 rfl) rfl <| s_iaload (dc kc_X12_oneStep_5 1 rfl) rfl (by first | omega | (simp [up] <;> omega)) (by first | omega | (simp [up] <;> omega)) <| k_i (dc kc_X12_oneStep_5 2 rfl) rfl <| s_icmp_eq (tgt := 369) (dc kc_X12_oneStep_5 3 rfl) rfl (fun c336 => (k_i (dc kc_X12_oneStep_5 22 rfl) rfl <| ?_)) (fun c336 => (s_iload_n (dc kc_X12_oneStep_5 4 rfl) rfl <| s_i2l (dc kc_X12_oneStep_5 5 rfl) <| r_aload_n (dc kc_X12_oneStep_5 6 rfl) rfl <| s_getA (dc kc_X12_oneStep_5 7 rfl) fl_X12_7 (ly_80_2 hL) <| k_b (dc kc_X12_oneStep_5 8 rfl) rfl <| s_iaload (dc kc_X12_oneStep_5 9 rfl) rfl (by first | omega | (simp [up] <;> omega)) (by first | omega | (simp [up] <;> omega)) <| s_i2l (dc kc_X12_oneStep_5 10 rfl) <| r_aload_n (dc kc_X12_oneStep_5 11 rfl) rfl <| s_getA (dc kc_X12_oneStep_5 12 rfl) fl_X12_7 (ly_80_2 hL) <| k_b (dc kc_X12_oneStep_5 13 rfl) rfl <| s_iaload (dc kc_X12_oneStep_5 14 rfl) rfl (by first | omega | (simp [up] <;> omega)) (by first | omega | (simp [up] <;> omega)) <| s_i2l (dc kc_X12_oneStep_5 15 rfl) <| s_lconst1 (dc kc_X12_oneStep_5 16 rfl) <| b_lsub (dc kc_X12_oneStep_5 17 rfl) (by first | omega | (simp [up] <;> omega)) (by first | omega | (simp [up] <;> omega)) <| c_s3r (dc kc_X12_oneStep_5 18 rfl) cl_X12_92 rfl (Nat.le_of_ble_eq_true rfl) (Nat.zero_le _) (Nat.zero_le _) <| t_in <| s_if_eqb (tgt := 369) (dc kc_X12_oneStep_5 19 rfl) rfl (fun c362 => (k_i (dc kc_X12_oneStep_5 22 rfl) rfl <| ?_)) (fun c362 => (k_i (dc kc_X12_oneStep_5 20 rfl) rfl <| s_goto (tgt := 370) (dc kc_X12_oneStep_5 21 rfl) rfl <| ?_))))
    · exact fin 0 (by unfold rstI; rw [bi_f]; omega) _ _
    · exact fin 0 (by unfold rstI; rw [bi_f]; omega) _ _
    · exact fin 1 (by unfold rstI; rw [bi_t]; omega) _ _
  -- lots, laws
  have st5 : ∀ mi2 x4 x5 x6, Ch pS mi mi2 → mi2 0 81 = stp4 ρ → Run (d+8) mt_X12_oneStep Q (n, mr, 0, 0) mi2 221 [vR (some (0, 80)), vI (ρ 0), vI (ρ 7), vI (rcS ρ), x4, x5, x6] [] := by
    intro mi2 x4 x5 x6 g2 e2
    have h48 := stp4_8 hI h17
    have e10 : mi2 0 81 10 = ρ 10 := by rw [e2]; exact stp4_off hI h17 (by omega)
    refine r_aload_n (dc kc_X12_oneStep_3 20 rfl) rfl <| c_v0 (dc kc_X12_oneStep_3 21 rfl) cl_X12_427 rfl (Nat.le_of_ble_eq_true rfl) (Nat.zero_le _) (Nat.zero_le _) ?_
    refine t_drawLots hL (by rw [e10]; exact hI.2.2.2.2.1.1) (by rw [e10]; exact hI.2.2.2.2.1.2) (by rw [e2]; exact h48.1) (by rw [e2]; exact h48.2) (fun mi3 g3 e3 => ?_)
    refine k_i (dc kc_X12_oneStep_3 22 rfl) rfl <| t_i4 (dc kc_X12_oneStep_3 23 rfl) (Nat.le_of_ble_eq_true rfl) rfl <| ?_
    exact step_l1 hL hI h17 (mi0 := mi) st7 0 (Nat.zero_le _) mi3 _ _ (g2.tr (g3.mono pF_pS)) (by rw [e3, e2]; exact f1_0.symm)
  have st4 : ∀ mi2 x4 x5 x6, Ch pS mi mi2 → mi2 0 81 = stp3 ρ → Run (d+8) mt_X12_oneStep Q (n, mr, 0, 0) mi2 176 [vR (some (0, 80)), vI (ρ 0), vI (ρ 7), vI (rcS ρ), x4, x5, x6] [] := by
    intro mi2 x4 x5 x6 g2 e2
    refine r_aload_n (dc kc_X12_oneStep_2 31 rfl) rfl <| s_getA (dc kc_X12_oneStep_2 32 rfl) fl_X12_7 (ly_80_2 hL) <| k_s (dc kc_X12_oneStep_2 33 rfl) rfl <| k_i (dc kc_X12_oneStep_2 34 rfl) rfl <| s_iload_n (dc kc_X12_oneStep_2 35 rfl) rfl <| k_s (dc kc_X12_oneStep_2 36 rfl) rfl <| b_irem (dc kc_X12_oneStep_2 37 rfl) (by first | omega | (simp [up] <;> omega)) (by first | omega | (simp [up] <;> omega)) <| b_imul (dc kc_X12_oneStep_2 38 rfl) (by first | omega | (simp [up] <;> omega)) (by first | omega | (simp [up] <;> omega)) <| b_iadd (dc kc_X12_oneStep_2 39 rfl) (by first | omega | (simp [up] <;> omega)) (by first | omega | (simp [up] <;> omega)) <| s_iload_n (dc kc_X12_oneStep_3 0 rfl) rfl <| s_iastore (dc kc_X12_oneStep_3 1 rfl) rfl (by first | omega | (simp [up] <;> omega)) (by first | omega | (simp [up] <;> omega)) <| r_aload_n (dc kc_X12_oneStep_3 2 rfl) rfl <| s_getA (dc kc_X12_oneStep_3 3 rfl) fl_X12_7 (ly_80_2 hL) <| k_s (dc kc_X12_oneStep_3 4 rfl) rfl <| k_i (dc kc_X12_oneStep_3 5 rfl) rfl <| s_iload_n (dc kc_X12_oneStep_3 6 rfl) rfl <| k_s (dc kc_X12_oneStep_3 7 rfl) rfl <| b_irem (dc kc_X12_oneStep_3 8 rfl) (by first | omega | (simp [up] <;> omega)) (by first | omega | (simp [up] <;> omega)) <| b_imul (dc kc_X12_oneStep_3 9 rfl) (by first | omega | (simp [up] <;> omega)) (by first | omega | (simp [up] <;> omega)) <| b_iadd (dc kc_X12_oneStep_3 10 rfl) (by first | omega | (simp [up] <;> omega)) (by first | omega | (simp [up] <;> omega)) <| k_i (dc kc_X12_oneStep_3 11 rfl) rfl <| b_iadd (dc kc_X12_oneStep_3 12 rfl) (by first | omega | (simp [up] <;> omega)) (by first | omega | (simp [up] <;> omega)) <| s_iload_n (dc kc_X12_oneStep_3 13 rfl) rfl <| k_i (dc kc_X12_oneStep_3 14 rfl) rfl <| s_icmp_ne (tgt := 219) (dc kc_X12_oneStep_3 15 rfl) rfl (fun c212 => (k_i (dc kc_X12_oneStep_3 18 rfl) rfl <| s_iastore (dc kc_X12_oneStep_3 19 rfl) rfl (by first | omega | (simp [up] <;> omega)) (by first | omega | (simp [up] <;> omega)) <| ?_)) (fun c212 => (k_i (dc kc_X12_oneStep_3 16 rfl) rfl <| s_goto (tgt := 220) (dc kc_X12_oneStep_3 17 rfl) rfl <| s_iastore (dc kc_X12_oneStep_3 19 rfl) rfl (by first | omega | (simp [up] <;> omega)) (by first | omega | (simp [up] <;> omega)) <| ?_))
    · refine st5 _ _ _ _ ((g2.up rfl).up rfl) ?_
      rw [up_ud, up_ud, e2]
      unfold stp4
      rw [bi_f c212]
    · refine st5 _ _ _ _ ((g2.up rfl).up rfl) ?_
      rw [up_ud, up_ud, e2]
      unfold stp4
      rw [bi_t c212]
  have st3 : ∀ mi2 x4 x5 x6, Ch pS mi mi2 → mi2 0 81 = stp2 ρ → mi2 0 80 31 = mi1 0 80 31 → mi2 0 80 32 = mi1 0 80 32 → Run (d+8) mt_X12_oneStep Q (n, mr, 0, 0) mi2 79 [vR (some (0, 80)), vI (ρ 0), vI (ρ 7), vI (rcS ρ), x4, x5, x6] [] := by
    intro mi2 x4 x5 x6 g2 e2 e231 e232
    have e218 : stp2 ρ 18 = ρ 18 := stp2_off hI h17 (by omega)
    refine s_iload_n (dc kc_X12_oneStep_1 14 rfl) rfl <| k_i (dc kc_X12_oneStep_1 15 rfl) rfl <| s_icmp_ne (tgt := 176) (dc kc_X12_oneStep_1 16 rfl) rfl (fun c81 => (?_)) (fun c81 => (?_))
    · refine st4 _ _ _ _ g2 ?_
      rw [e2]
      unfold stp3
      rw [if_neg c81]
    · have e3 : (lnO ρ (ρ 7)).1 = 3 := by
        have h := hrc.mp c81
        have hr := lnA_rg (c := clR ρ) (t := tgtOf ρ (ρ 7)) (p := lnP ρ (ρ 7)) (v := lnV ρ (ρ 7)) (w := lnT ρ (ρ 7))
        rw [show lnA (clR ρ) (tgtOf ρ (ρ 7)) (lnP ρ (ρ 7)) (lnV ρ (ρ 7)) (lnT ρ (ρ 7)) = lnO ρ (ρ 7) from rfl] at hr
        omega
      obtain ⟨ep, eh⟩ := e31 e3
      rw [← e231] at ep
      rw [← e232] at eh
      have h01 : mi2 0 80 32 = 0 ∨ mi2 0 80 32 = 1 := by rw [eh]; exact bi_01
      have eS : stp3 ρ = payR (mi2 0 81) (mi2 0 80 32) (mi2 0 80 31) := by unfold stp3; rw [if_pos c81, e2, ep, eh]
      have e218' : mi2 0 81 18 = ρ 18 := by rw [e2, e218]
      have q1 : ∀ v w, up (up mi2 0 81 4 v) 0 81 3 w 0 81 = ud (ud (mi2 0 81) 4 v) 3 w := fun v w => by rw [up_ud, up_ud]
      have q2 : ∀ v w, up (up mi2 0 81 4 v) 0 81 3 w 0 81 18 = ρ 18 := fun v w => by rw [q1, ud_ne (by omega), ud_ne (by omega), e218']
      have q3 : ∀ v w x, up (up (up mi2 0 81 4 v) 0 81 3 w) 0 81 (146 + ρ 18) x 0 81 18 = ρ 18 := fun v w x => by rw [up_ud, ud_ne (by omega), q2]
      have q4 : ∀ v, up mi2 0 81 4 v 0 81 3 = mi2 0 81 3 := fun v => by rw [up_ud, ud_ne (by omega)]
      have q5 : ∀ v, up mi2 0 81 4 v 0 80 = mi2 0 80 := fun v => up_j (by decide)
      have q6 : ∀ v w, up (up mi2 0 81 4 v) 0 81 3 w 0 80 = mi2 0 80 := fun v w => by rw [up_j (by decide), up_j (by decide)]
      have hp : ∀ h v w, h = mi2 0 80 32 → v = w32 (mi2 0 81 4 + h) → w = w32 (mi2 0 81 3 + (1 - h)) → ud (ud (mi2 0 81) 4 v) 3 w = payB (mi2 0 81) h := by
        intro h v w _ ev ew
        unfold payB inc
        rw [ud_ne (k := 4) (i := 3) (by decide), ev, ew]
      refine r_aload_n (dc kc_X12_oneStep_1 17 rfl) rfl <| s_getA (dc kc_X12_oneStep_1 18 rfl) fl_X12_7 (ly_80_2 hL) <| k_i (dc kc_X12_oneStep_1 19 rfl) rfl <| s_dup2 (dc kc_X12_oneStep_1 20 rfl) rfl rfl <| s_iaload (dc kc_X12_oneStep_1 21 rfl) rfl (by first | omega | (simp [up] <;> omega)) (by first | omega | (simp [up] <;> omega)) <| r_aload_n (dc kc_X12_oneStep_1 22 rfl) rfl <| s_getZ (dc kc_X12_oneStep_1 23 rfl) fl_X12_407 <| s_if_eq (tgt := 102) (dc kc_X12_oneStep_1 24 rfl) rfl (fun c95 => (k_i (dc kc_X12_oneStep_1 27 rfl) rfl <| s_iadd (dc kc_X12_oneStep_1 28 rfl) <| s_iastore (dc kc_X12_oneStep_1 29 rfl) rfl (by first | omega | (simp [up] <;> omega)) (by first | omega | (simp [up] <;> omega)) <| r_aload_n (dc kc_X12_oneStep_1 30 rfl) rfl <| s_getA (dc kc_X12_oneStep_1 31 rfl) fl_X12_7 (ly_80_2 hL) <| k_i (dc kc_X12_oneStep_1 32 rfl) rfl <| s_dup2 (dc kc_X12_oneStep_1 33 rfl) rfl rfl <| s_iaload (dc kc_X12_oneStep_1 34 rfl) rfl (by first | omega | (simp [up] <;> omega)) (by first | omega | (simp [up] <;> omega)) <| r_aload_n (dc kc_X12_oneStep_1 35 rfl) rfl <| s_getZ (dc kc_X12_oneStep_1 36 rfl) fl_X12_407 <| s_if_eq (tgt := 123) (dc kc_X12_oneStep_1 37 rfl) rfl (fun c116 => (k_i (dc kc_X12_oneStep_2 0 rfl) rfl <| s_iadd (dc kc_X12_oneStep_2 1 rfl) <| s_iastore (dc kc_X12_oneStep_2 2 rfl) rfl (by first | omega | (simp [up] <;> omega)) (by first | omega | (simp [up] <;> omega)) <| r_aload_n (dc kc_X12_oneStep_2 3 rfl) rfl <| s_getZ (dc kc_X12_oneStep_2 4 rfl) fl_X12_407 <| s_if_ne (tgt := 176) (dc kc_X12_oneStep_2 5 rfl) rfl (fun c130 => (?_)) (fun c130 => (?_)))) (fun c116 => (k_i (dc kc_X12_oneStep_1 38 rfl) rfl <| s_goto (tgt := 124) (dc kc_X12_oneStep_1 39 rfl) rfl <| s_iadd (dc kc_X12_oneStep_2 1 rfl) <| s_iastore (dc kc_X12_oneStep_2 2 rfl) rfl (by first | omega | (simp [up] <;> omega)) (by first | omega | (simp [up] <;> omega)) <| r_aload_n (dc kc_X12_oneStep_2 3 rfl) rfl <| s_getZ (dc kc_X12_oneStep_2 4 rfl) fl_X12_407 <| s_if_ne (tgt := 176) (dc kc_X12_oneStep_2 5 rfl) rfl (fun c130 => (?_)) (fun c130 => (?_)))))) (fun c95 => (k_i (dc kc_X12_oneStep_1 25 rfl) rfl <| s_goto (tgt := 103) (dc kc_X12_oneStep_1 26 rfl) rfl <| s_iadd (dc kc_X12_oneStep_1 28 rfl) <| s_iastore (dc kc_X12_oneStep_1 29 rfl) rfl (by first | omega | (simp [up] <;> omega)) (by first | omega | (simp [up] <;> omega)) <| r_aload_n (dc kc_X12_oneStep_1 30 rfl) rfl <| s_getA (dc kc_X12_oneStep_1 31 rfl) fl_X12_7 (ly_80_2 hL) <| k_i (dc kc_X12_oneStep_1 32 rfl) rfl <| s_dup2 (dc kc_X12_oneStep_1 33 rfl) rfl rfl <| s_iaload (dc kc_X12_oneStep_1 34 rfl) rfl (by first | omega | (simp [up] <;> omega)) (by first | omega | (simp [up] <;> omega)) <| r_aload_n (dc kc_X12_oneStep_1 35 rfl) rfl <| s_getZ (dc kc_X12_oneStep_1 36 rfl) fl_X12_407 <| s_if_eq (tgt := 123) (dc kc_X12_oneStep_1 37 rfl) rfl (fun c116 => (k_i (dc kc_X12_oneStep_2 0 rfl) rfl <| s_iadd (dc kc_X12_oneStep_2 1 rfl) <| s_iastore (dc kc_X12_oneStep_2 2 rfl) rfl (by first | omega | (simp [up] <;> omega)) (by first | omega | (simp [up] <;> omega)) <| r_aload_n (dc kc_X12_oneStep_2 3 rfl) rfl <| s_getZ (dc kc_X12_oneStep_2 4 rfl) fl_X12_407 <| s_if_ne (tgt := 176) (dc kc_X12_oneStep_2 5 rfl) rfl (fun c130 => (?_)) (fun c130 => (?_)))) (fun c116 => (k_i (dc kc_X12_oneStep_1 38 rfl) rfl <| s_goto (tgt := 124) (dc kc_X12_oneStep_1 39 rfl) rfl <| s_iadd (dc kc_X12_oneStep_2 1 rfl) <| s_iastore (dc kc_X12_oneStep_2 2 rfl) rfl (by first | omega | (simp [up] <;> omega)) (by first | omega | (simp [up] <;> omega)) <| r_aload_n (dc kc_X12_oneStep_2 3 rfl) rfl <| s_getZ (dc kc_X12_oneStep_2 4 rfl) fl_X12_407 <| s_if_ne (tgt := 176) (dc kc_X12_oneStep_2 5 rfl) rfl (fun c130 => (?_)) (fun c130 => (?_))))))
      all_goals rw [q5] at c116
      all_goals rw [q6] at c130
      all_goals first | (exfalso; omega) | skip
      · rw [q4]
        have hb := hp 0 _ _ c95.symm rfl rfl
        refine r_aload_n (dc kc_X12_oneStep_2 6 rfl) rfl <| s_getA (dc kc_X12_oneStep_2 7 rfl) fl_X12_7 (ly_80_2 hL) <| k_b (dc kc_X12_oneStep_2 8 rfl) rfl <| s_iaload (dc kc_X12_oneStep_2 9 rfl) rfl (by first | omega | (simp [up] <;> omega)) (by first | omega | (simp [up] <;> omega)) <| k_b (dc kc_X12_oneStep_2 10 rfl) rfl <| s_icmp_ge (tgt := 176) (dc kc_X12_oneStep_2 11 rfl) rfl (fun c142 => (?_)) (fun c142 => (r_aload_n (dc kc_X12_oneStep_2 12 rfl) rfl <| s_getA (dc kc_X12_oneStep_2 13 rfl) fl_X12_7 (ly_80_2 hL) <| k_s (dc kc_X12_oneStep_2 14 rfl) rfl <| r_aload_n (dc kc_X12_oneStep_2 15 rfl) rfl <| s_getA (dc kc_X12_oneStep_2 16 rfl) fl_X12_7 (ly_80_2 hL) <| k_b (dc kc_X12_oneStep_2 17 rfl) rfl <| s_iaload (dc kc_X12_oneStep_2 18 rfl) rfl (by first | omega | (simp [up] <;> omega)) (by first | omega | (simp [up] <;> omega)) <| b_iadd (dc kc_X12_oneStep_2 19 rfl) (by first | omega | (simp [up] <;> omega)) (by first | omega | (simp [up] <;> omega)) <| r_aload_n (dc kc_X12_oneStep_2 20 rfl) rfl <| s_getI (dc kc_X12_oneStep_2 21 rfl) fl_X12_404 <| s_iastore (dc kc_X12_oneStep_2 22 rfl) rfl (by first | omega | (simp [up] <;> omega)) (by first | omega | (simp [up] <;> omega)) <| r_aload_n (dc kc_X12_oneStep_2 23 rfl) rfl <| s_getA (dc kc_X12_oneStep_2 24 rfl) fl_X12_7 (ly_80_2 hL) <| k_b (dc kc_X12_oneStep_2 25 rfl) rfl <| s_dup2 (dc kc_X12_oneStep_2 26 rfl) rfl rfl <| s_iaload (dc kc_X12_oneStep_2 27 rfl) rfl (by first | omega | (simp [up] <;> omega)) (by first | omega | (simp [up] <;> omega)) <| k_i (dc kc_X12_oneStep_2 28 rfl) rfl <| b_iadd (dc kc_X12_oneStep_2 29 rfl) (by first | omega | (simp [up] <;> omega)) (by first | omega | (simp [up] <;> omega)) <| s_iastore (dc kc_X12_oneStep_2 30 rfl) rfl (by first | omega | (simp [up] <;> omega)) (by first | omega | (simp [up] <;> omega)) <| ?_))
        · refine st4 _ _ _ _ ((g2.up rfl).up rfl) ?_
          rw [q2] at c142
          rw [q1, eS, c95]
          unfold payR
          rw [if_neg (by omega), ← hb]
          rfl
        · rw [q2] at c142
          refine st4 _ _ _ _ ((((g2.up rfl).up rfl).up rfl).up rfl) ?_
          rw [q2, q6, q3, up_ud, up_ud, q1, eS, c95]
          unfold payR
          rw [if_pos ⟨rfl, by omega⟩, e218', ← hb]
          unfold inc
          rw [ud_ne (k := 146 + ρ 18) (i := 18) (by omega), ud_ne (i := 18) (by decide), ud_ne (i := 18) (by decide), e218', w32_id (x := ρ 18 + 1) (by omega) (by omega)]
          rfl
      · rw [q4]
        have h1 : mi2 0 80 32 = 1 := by omega
        have hb := hp 1 _ _ h1.symm rfl rfl
        refine st4 _ _ _ _ ((g2.up rfl).up rfl) ?_
        rw [q1, eS, h1]
        unfold payR
        rw [if_neg (by omega), ← hb]
        rfl
  have q80 : ∀ v w x (k : Int), up (up (up mi1 0 81 7 v) 0 81 1 w) 0 81 2 x 0 80 k = mi1 0 80 k := fun v w x k => by rw [up_j (by decide), up_j (by decide), up_j (by decide)]
  refine t_i3 (dc kc_X12_oneStep_0 15 rfl) (Nat.le_of_ble_eq_true rfl) rfl <| r_aload_n (dc kc_X12_oneStep_0 16 rfl) rfl <| s_getA (dc kc_X12_oneStep_0 17 rfl) fl_X12_7 (ly_80_2 hL) <| k_b (dc kc_X12_oneStep_0 18 rfl) rfl <| s_iload_n (dc kc_X12_oneStep_0 19 rfl) rfl <| k_i (dc kc_X12_oneStep_0 20 rfl) rfl <| b_iadd (dc kc_X12_oneStep_0 21 rfl) (by first | omega | (simp [up] <;> omega)) (by first | omega | (simp [up] <;> omega)) <| r_aload_n (dc kc_X12_oneStep_0 22 rfl) rfl <| s_getA (dc kc_X12_oneStep_0 23 rfl) fl_X12_7 (ly_80_2 hL) <| k_b (dc kc_X12_oneStep_0 24 rfl) rfl <| s_iaload (dc kc_X12_oneStep_0 25 rfl) rfl (by first | omega | (simp [up] <;> omega)) (by first | omega | (simp [up] <;> omega)) <| b_irem (dc kc_X12_oneStep_0 26 rfl) (by first | omega | (simp [up] <;> omega)) (by first | omega | (simp [up] <;> omega)) <| s_iastore (dc kc_X12_oneStep_0 27 rfl) rfl (by first | omega | (simp [up] <;> omega)) (by first | omega | (simp [up] <;> omega)) <| r_aload_n (dc kc_X12_oneStep_0 28 rfl) rfl <| s_getA (dc kc_X12_oneStep_0 29 rfl) fl_X12_7 (ly_80_2 hL) <| k_i (dc kc_X12_oneStep_0 30 rfl) rfl <| s_dup2 (dc kc_X12_oneStep_0 31 rfl) rfl rfl <| s_iaload (dc kc_X12_oneStep_0 32 rfl) rfl (by first | omega | (simp [up] <;> omega)) (by first | omega | (simp [up] <;> omega)) <| s_iload_n (dc kc_X12_oneStep_0 33 rfl) rfl <| k_i (dc kc_X12_oneStep_0 34 rfl) rfl <| s_icmp_ne (tgt := 57) (dc kc_X12_oneStep_0 35 rfl) rfl (fun c50 => (k_i (dc kc_X12_oneStep_0 38 rfl) rfl <| s_iadd (dc kc_X12_oneStep_0 39 rfl) <| s_iastore (dc kc_X12_oneStep_1 0 rfl) rfl (by first | omega | (simp [up] <;> omega)) (by first | omega | (simp [up] <;> omega)) <| r_aload_n (dc kc_X12_oneStep_1 1 rfl) rfl <| s_getA (dc kc_X12_oneStep_1 2 rfl) fl_X12_7 (ly_80_2 hL) <| k_i (dc kc_X12_oneStep_1 3 rfl) rfl <| s_dup2 (dc kc_X12_oneStep_1 4 rfl) rfl rfl <| s_iaload (dc kc_X12_oneStep_1 5 rfl) rfl (by first | omega | (simp [up] <;> omega)) (by first | omega | (simp [up] <;> omega)) <| s_iload_n (dc kc_X12_oneStep_1 6 rfl) rfl <| k_i (dc kc_X12_oneStep_1 7 rfl) rfl <| s_icmp_ne (tgt := 76) (dc kc_X12_oneStep_1 8 rfl) rfl (fun c69 => (k_i (dc kc_X12_oneStep_1 11 rfl) rfl <| s_iadd (dc kc_X12_oneStep_1 12 rfl) <| s_iastore (dc kc_X12_oneStep_1 13 rfl) rfl (by first | omega | (simp [up] <;> omega)) (by first | omega | (simp [up] <;> omega)) <| ?_)) (fun c69 => (k_i (dc kc_X12_oneStep_1 9 rfl) rfl <| s_goto (tgt := 77) (dc kc_X12_oneStep_1 10 rfl) rfl <| s_iadd (dc kc_X12_oneStep_1 12 rfl) <| s_iastore (dc kc_X12_oneStep_1 13 rfl) rfl (by first | omega | (simp [up] <;> omega)) (by first | omega | (simp [up] <;> omega)) <| ?_)))) (fun c50 => (k_i (dc kc_X12_oneStep_0 36 rfl) rfl <| s_goto (tgt := 58) (dc kc_X12_oneStep_0 37 rfl) rfl <| s_iadd (dc kc_X12_oneStep_0 39 rfl) <| s_iastore (dc kc_X12_oneStep_1 0 rfl) rfl (by first | omega | (simp [up] <;> omega)) (by first | omega | (simp [up] <;> omega)) <| r_aload_n (dc kc_X12_oneStep_1 1 rfl) rfl <| s_getA (dc kc_X12_oneStep_1 2 rfl) fl_X12_7 (ly_80_2 hL) <| k_i (dc kc_X12_oneStep_1 3 rfl) rfl <| s_dup2 (dc kc_X12_oneStep_1 4 rfl) rfl rfl <| s_iaload (dc kc_X12_oneStep_1 5 rfl) rfl (by first | omega | (simp [up] <;> omega)) (by first | omega | (simp [up] <;> omega)) <| s_iload_n (dc kc_X12_oneStep_1 6 rfl) rfl <| k_i (dc kc_X12_oneStep_1 7 rfl) rfl <| s_icmp_ne (tgt := 76) (dc kc_X12_oneStep_1 8 rfl) rfl (fun c69 => (k_i (dc kc_X12_oneStep_1 11 rfl) rfl <| s_iadd (dc kc_X12_oneStep_1 12 rfl) <| s_iastore (dc kc_X12_oneStep_1 13 rfl) rfl (by first | omega | (simp [up] <;> omega)) (by first | omega | (simp [up] <;> omega)) <| ?_)) (fun c69 => (k_i (dc kc_X12_oneStep_1 9 rfl) rfl <| s_goto (tgt := 77) (dc kc_X12_oneStep_1 10 rfl) rfl <| s_iadd (dc kc_X12_oneStep_1 12 rfl) <| s_iastore (dc kc_X12_oneStep_1 13 rfl) rfl (by first | omega | (simp [up] <;> omega)) (by first | omega | (simp [up] <;> omega)) <| ?_))))
  all_goals refine st3 _ _ _ _ (((gS.up rfl).up rfl).up rfl) ?_ (q80 _ _ _ _) (q80 _ _ _ _)
  all_goals simp only [up_ud, e117, e1]
  all_goals unfold stp2 inc
  · rw [bi_f c50, bi_f c69]
  · rw [bi_f c50, bi_t c69]
  · rw [bi_t c50, bi_f c69]
  · rw [bi_t c50, bi_t c69]
end REF13
