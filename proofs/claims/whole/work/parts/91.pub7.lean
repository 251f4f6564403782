/-! the class: what is asked of the state -/
section PB7
variable {d n G : Nat} {mr : MR} {Q : V → MI → Nat → MR → Prop}
theorem u_call (hL : Lay G mr) {mi : MI} {g : Nat} {ρ : Int → Int} {w : Int} (hnow : mr 0 0 4 = some (g, 5)) (hg : g < G) (hR : Rep (-1) mi g ρ) (hQ : Q (vI (if 0 ≤ w ∧ w ≤ 8 then ρ w else -1)) mi n mr) : Tx (d+1) mt_X11_all [vR (some (0, 0)), vI w] mi n mr Q := by
  have hok : okI G 5 g := hg
  have hok3 : okI G 30 g := hg
  obtain ⟨rW, rL, rN, rJ, rS, rH, rC⟩ := id hR
  refine tx_intro (ls := [vR (some (0, 0)), vI w]) om_X11_all rfl (Nat.le_of_ble_eq_true rfl) ?_
  refine s_iload_n (dc kc_X11_all 0 rfl) rfl <| k_b (dc kc_X11_all 1 rfl) rfl <| s_icmp_ne (tgt := 17) (dc kc_X11_all 2 rfl) rfl (fun c3 => (s_iload_n (dc kc_X11_all 8 rfl) rfl <| s_if_lt (tgt := 39) (dc kc_X11_all 9 rfl) rfl (fun c18 => (k_i (dc kc_X11_all 19 rfl) rfl <| s_ireturn (dc kc_X11_all 20 rfl) rfl (Nat.zero_le _) (Nat.zero_le _) ?_)) (fun c18 => (s_iload_n (dc kc_X11_all 10 rfl) rfl <| k_b (dc kc_X11_all 11 rfl) rfl <| s_icmp_ge (tgt := 39) (dc kc_X11_all 12 rfl) rfl (fun c24 => (k_i (dc kc_X11_all 19 rfl) rfl <| s_ireturn (dc kc_X11_all 20 rfl) rfl (Nat.zero_le _) (Nat.zero_le _) ?_)) (fun c24 => (r_aload_n (dc kc_X11_all 13 rfl) rfl <| s_getO (dc kc_X11_all 14 rfl) fl_X11_26 hnow <| s_getA (dc kc_X11_all 15 rfl) fl_X11_118 (ly_5_5 hL (by assumption)) <| s_iload_n (dc kc_X11_all 16 rfl) rfl <| s_iaload (dc kc_X11_all 17 rfl) rfl (by first | omega | (simp [up] <;> omega)) (by first | omega | (simp [up] <;> omega)) <| s_goto (tgt := 40) (dc kc_X11_all 18 rfl) rfl <| s_ireturn (dc kc_X11_all 20 rfl) rfl (Nat.zero_le _) (Nat.zero_le _) ?_)))))) (fun c3 => (r_aload_n (dc kc_X11_all 3 rfl) rfl <| s_getO (dc kc_X11_all 4 rfl) fl_X11_26 hnow <| s_getO (dc kc_X11_all 5 rfl) fl_X11_127 (ly_5_3 hL (by assumption)) <| s_getI (dc kc_X11_all 6 rfl) fl_X11_252 <| s_ireturn (dc kc_X11_all 7 rfl) rfl (Nat.zero_le _) (Nat.zero_le _) ?_))
  · rw [if_neg (by omega)] at hQ; exact hQ
  · rw [if_neg (by omega)] at hQ; exact hQ
  · rw [if_pos (by omega)] at hQ; rw [rC.1 w (by omega) (by omega) (by omega)]; exact hQ
  · have e : w = 8 := by omega
    rw [if_pos (by omega), e] at hQ; rw [rJ.1]; exact hQ
theorem u_cout (hL : Lay G mr) {mi : MI} {g : Nat} {ρ : Int → Int} {B i : Int} (hnow : mr 0 0 4 = some (g, 5)) (hg : g < G) (hR : Rep (-1) mi g ρ) (hI : Inv B ρ) (hQ : Q (vI (if 0 ≤ i ∧ i < ρ 18 then ρ (146 + i) else -1000)) mi n mr) : Tx (d+1) mt_X11_out [vR (some (0, 0)), vI i] mi n mr Q := by
  have hok : okI G 5 g := hg
  obtain ⟨rW, rL, rN, rJ, rS, rH, rC⟩ := id hR
  have h18 := hI.2.2.1.2.2.2.2.2.2.2.2.1
  have e3 := rC.1 3 (by decide) (by decide) (by decide)
  have h18' : ρ 18 = min (ρ 3) 100 := by rw [h18]; split <;> omega
  refine tx_intro (ls := [vR (some (0, 0)), vI i]) om_X11_out rfl (Nat.le_of_ble_eq_true rfl) ?_
  refine s_iload_n (dc kc_X11_out 0 rfl) rfl <| s_if_lt (tgt := 23) (dc kc_X11_out 1 rfl) rfl (fun c1 => (k_s (dc kc_X11_out 12 rfl) rfl <| s_ireturn (dc kc_X11_out 13 rfl) rfl (Nat.zero_le _) (Nat.zero_le _) ?_)) (fun c1 => (s_iload_n (dc kc_X11_out 2 rfl) rfl <| k_b (dc kc_X11_out 3 rfl) rfl <| s_icmp_ge (tgt := 23) (dc kc_X11_out 4 rfl) rfl (fun c7 => (k_s (dc kc_X11_out 12 rfl) rfl <| s_ireturn (dc kc_X11_out 13 rfl) rfl (Nat.zero_le _) (Nat.zero_le _) ?_)) (fun c7 => (s_iload_n (dc kc_X11_out 5 rfl) rfl <| r_aload_n (dc kc_X11_out 6 rfl) rfl <| s_getO (dc kc_X11_out 7 rfl) fl_X11_26 hnow <| s_getA (dc kc_X11_out 8 rfl) fl_X11_118 (ly_5_5 hL (by assumption)) <| k_i (dc kc_X11_out 9 rfl) rfl <| s_iaload (dc kc_X11_out 10 rfl) rfl (by first | omega | (simp [up] <;> omega)) (by first | omega | (simp [up] <;> omega)) <| s_icmp_lt (tgt := 27) (dc kc_X11_out 11 rfl) rfl (fun c20 => (r_aload_n (dc kc_X11_out 14 rfl) rfl <| s_getO (dc kc_X11_out 15 rfl) fl_X11_26 hnow <| s_getA (dc kc_X11_out 16 rfl) fl_X11_253 (ly_5_6 hL (by assumption)) <| s_iload_n (dc kc_X11_out 17 rfl) rfl <| s_iaload (dc kc_X11_out 18 rfl) rfl (by first | omega | (simp [up] <;> omega)) (by first | omega | (simp [up] <;> omega)) <| s_ireturn (dc kc_X11_out 19 rfl) rfl (Nat.zero_le _) (Nat.zero_le _) ?_)) (fun c20 => (k_s (dc kc_X11_out 12 rfl) rfl <| s_ireturn (dc kc_X11_out 13 rfl) rfl (Nat.zero_le _) (Nat.zero_le _) ?_))))))
  · rw [if_neg (by omega)] at hQ; exact hQ
  · rw [if_neg (by omega)] at hQ; exact hQ
  · rw [if_pos (by omega)] at hQ; rw [rC.2.1 i (by omega) (by omega)]; exact hQ
  · rw [if_neg (by omega)] at hQ; exact hQ
theorem u_cend {mi : MI} {x : Int} (hQ1 : ¬ (0 ≤ x ∧ x ≤ mi 0 0 1) → Q (vI (-1)) mi n mr) (hQ2 : 0 ≤ x → x ≤ mi 0 0 1 → Q (vI x) (up mi 0 0 1 x) n mr) : Tx (d+1) mt_X11_end [vR (some (0, 0)), vI x] mi n mr Q := by
  refine tx_intro (ls := [vR (some (0, 0)), vI x]) om_X11_end rfl (Nat.le_of_ble_eq_true rfl) ?_
  refine s_iload_n (dc kc_X11_end 0 rfl) rfl <| s_if_lt (tgt := 12) (dc kc_X11_end 1 rfl) rfl (fun c1 => (k_i (dc kc_X11_end 6 rfl) rfl <| s_ireturn (dc kc_X11_end 7 rfl) rfl (Nat.zero_le _) (Nat.zero_le _) ?_)) (fun c1 => (s_iload_n (dc kc_X11_end 2 rfl) rfl <| r_aload_n (dc kc_X11_end 3 rfl) rfl <| s_getI (dc kc_X11_end 4 rfl) fl_X11_13 <| s_icmp_le (tgt := 14) (dc kc_X11_end 5 rfl) rfl (fun c9 => (r_aload_n (dc kc_X11_end 8 rfl) rfl <| s_iload_n (dc kc_X11_end 9 rfl) rfl <| s_putI (dc kc_X11_end 10 rfl) fl_X11_13 <| s_iload_n (dc kc_X11_end 11 rfl) rfl <| s_ireturn (dc kc_X11_end 12 rfl) rfl (Nat.zero_le _) (Nat.zero_le _) ?_)) (fun c9 => (k_i (dc kc_X11_end 6 rfl) rfl <| s_ireturn (dc kc_X11_end 7 rfl) rfl (Nat.zero_le _) (Nat.zero_le _) ?_))))
  all_goals first | exact hQ1 (by omega) | exact hQ2 (by omega) (by omega)
theorem u_cbears (hL : Lay G mr) {mi : MI} {g : Nat} {ρ : Int → Int} {B j : Int} (hnow : mr 0 0 4 = some (g, 5)) (hg : g < G) (hR : Rep (-1) mi g ρ) (hI : Inv B ρ) (hQ : Q (vI (if 0 ≤ j ∧ j < ρ 17 then brsF ρ j (ρ 16).toNat else -1)) mi n mr) : Tx (d+4) mt_X11_bears [vR (some (0, 0)), vI j] mi n mr Q := by
  have hok : okI G 5 g := hg
  have e17 := hR.2.2.1.1
  refine tx_intro (ls := [vR (some (0, 0)), vI j]) om_X11_bears rfl (Nat.le_of_ble_eq_true rfl) ?_
  refine r_aload_n (dc kc_X11_bears 0 rfl) rfl <| s_getO (dc kc_X11_bears 1 rfl) fl_X11_26 hnow <| s_getO (dc kc_X11_bears 2 rfl) fl_X11_115 (ly_5_2 hL (by assumption)) <| s_iload_n (dc kc_X11_bears 3 rfl) rfl <| c_v1r (dc kc_X11_bears 4 rfl) cl_X11_136 rfl (Nat.le_of_ble_eq_true rfl) (Nat.zero_le _) (Nat.zero_le _) <| u_has <| s_if_neb (tgt := 16) (dc kc_X11_bears 5 rfl) rfl (fun c11 => (r_aload_n (dc kc_X11_bears 8 rfl) rfl <| s_getO (dc kc_X11_bears 9 rfl) fl_X11_26 hnow <| s_iload_n (dc kc_X11_bears 10 rfl) rfl <| c_v1r (dc kc_X11_bears 11 rfl) cl_X11_163 rfl (Nat.le_of_ble_eq_true rfl) (Nat.zero_le _) (Nat.zero_le _) ?_)) (fun c11 => (k_i (dc kc_X11_bears 6 rfl) rfl <| s_ireturn (dc kc_X11_bears 7 rfl) rfl (Nat.zero_le _) (Nat.zero_le _) ?_))
  · rw [if_pos (by omega)] at hQ
    refine u_bearsOn (e := -1) hL hg hR.2.1 hR.2.2.1 hI.1.2.2.2.2.2.1 hI.1.2.2.2.2.2.2.1.2 (by omega) (by omega) (hI.wf.2 j (by omega) (by omega)).1 ?_
    refine s_ireturn (dc kc_X11_bears 12 rfl) rfl (Nat.zero_le _) (Nat.zero_le _) ?_
    exact hQ
  · rw [if_neg (by omega)] at hQ; exact hQ
theorem u_cspread (hL : Lay G mr) {mi : MI} {g : Nat} {ρ : Int → Int} {B c s : Int} (hnow : mr 0 0 4 = some (g, 5)) (hg : g < G) (hR : Rep (-1) mi g ρ) (hI : Inv B ρ) (hQ : Q (vI (if (0 ≤ c ∧ c ≤ 23) ∧ (0 ≤ s ∧ s < ρ 0) ∧ ρ 20 < s then sprF ρ s c (ρ 8).toNat else -1)) mi n mr) : Tx (d+3) mt_X11_spread [vR (some (0, 0)), vI c, vI s] mi n mr Q := by
  have hok : okI G 5 g := hg
  have hok3 : okI G 30 g := hg
  obtain ⟨rW, rL, rN, rJ, rS, rH, rC⟩ := id hR
  have e0 := rC.1 0 (by decide) (by decide) (by decide)
  have e20 := rJ.2.2.1
  refine tx_intro (ls := [vR (some (0, 0)), vI c, vI s]) om_X11_spread rfl (Nat.le_of_ble_eq_true rfl) ?_
  refine s_iload_n (dc kc_X11_spread 0 rfl) rfl <| c_s1r (dc kc_X11_spread 1 rfl) cl_X11_169 rfl (Nat.le_of_ble_eq_true rfl) (Nat.zero_le _) (Nat.zero_le _) <| u_isCell <| s_if_eqb (tgt := 38) (dc kc_X11_spread 2 rfl) rfl (fun c4 => (k_i (dc kc_X11_spread 18 rfl) rfl <| s_ireturn (dc kc_X11_spread 19 rfl) rfl (Nat.zero_le _) (Nat.zero_le _) ?_)) (fun c4 => (s_iload_n (dc kc_X11_spread 3 rfl) rfl <| s_if_lt (tgt := 38) (dc kc_X11_spread 4 rfl) rfl (fun c8 => (k_i (dc kc_X11_spread 18 rfl) rfl <| s_ireturn (dc kc_X11_spread 19 rfl) rfl (Nat.zero_le _) (Nat.zero_le _) ?_)) (fun c8 => (s_iload_n (dc kc_X11_spread 5 rfl) rfl <| r_aload_n (dc kc_X11_spread 6 rfl) rfl <| s_getO (dc kc_X11_spread 7 rfl) fl_X11_26 hnow <| s_getA (dc kc_X11_spread 8 rfl) fl_X11_118 (ly_5_5 hL (by assumption)) <| k_i (dc kc_X11_spread 9 rfl) rfl <| s_iaload (dc kc_X11_spread 10 rfl) rfl (by first | omega | (simp [up] <;> omega)) (by first | omega | (simp [up] <;> omega)) <| s_icmp_ge (tgt := 38) (dc kc_X11_spread 11 rfl) rfl (fun c21 => (k_i (dc kc_X11_spread 18 rfl) rfl <| s_ireturn (dc kc_X11_spread 19 rfl) rfl (Nat.zero_le _) (Nat.zero_le _) ?_)) (fun c21 => (r_aload_n (dc kc_X11_spread 12 rfl) rfl <| s_getO (dc kc_X11_spread 13 rfl) fl_X11_26 hnow <| s_getO (dc kc_X11_spread 14 rfl) fl_X11_127 (ly_5_3 hL (by assumption)) <| s_iload_n (dc kc_X11_spread 15 rfl) rfl <| c_v1r (dc kc_X11_spread 16 rfl) cl_X11_312 rfl (Nat.le_of_ble_eq_true rfl) (Nat.zero_le _) (Nat.zero_le _) <| u_isKeptFrom <| s_if_neb (tgt := 40) (dc kc_X11_spread 17 rfl) rfl (fun c35 => (r_aload_n (dc kc_X11_spread 20 rfl) rfl <| s_getO (dc kc_X11_spread 21 rfl) fl_X11_26 hnow <| s_getO (dc kc_X11_spread 22 rfl) fl_X11_127 (ly_5_3 hL (by assumption)) <| s_iload_n (dc kc_X11_spread 23 rfl) rfl <| s_iload_n (dc kc_X11_spread 24 rfl) rfl <| c_v2r (dc kc_X11_spread 25 rfl) cl_X11_315 rfl (Nat.le_of_ble_eq_true rfl) (Nat.zero_le _) (Nat.zero_le _) ?_)) (fun c35 => (k_i (dc kc_X11_spread 18 rfl) rfl <| s_ireturn (dc kc_X11_spread 19 rfl) rfl (Nat.zero_le _) (Nat.zero_le _) ?_))))))))
  all_goals first | (rw [if_neg (by omega)] at hQ; exact hQ) | skip
  rw [if_pos (by omega)] at hQ
  refine u_spreadOf hL hg rJ hI.1.2.2.2.1 ?_
  refine s_ireturn (dc kc_X11_spread 26 rfl) rfl (Nat.zero_le _) (Nat.zero_le _) ?_
  exact hQ
theorem u_cseen (hL : Lay G mr) {mi : MI} {g : Nat} {ρ : Int → Int} {B l w : Int} (hnow : mr 0 0 4 = some (g, 5)) (hg : g < G) (hR : Rep (-1) mi g ρ) (hI : Inv B ρ) (hQ : Q (vI (if (0 ≤ l ∧ l < ρ 16) ∧ 0 ≤ w ∧ w ≤ 2 then ρ (110 + 3 * l + w) else -1)) mi n mr) : Tx (d+2) mt_X11_seen [vR (some (0, 0)), vI l, vI w] mi n mr Q := by
  have hok : okI G 5 g := hg
  have hok4 : okI G 40 g := hg
  obtain ⟨rW, rL, rN, rJ, rS, rH, rC⟩ := id hR
  have e16 := rL.1
  have h16 := hI.1.2.2.2.2.2.1
  refine tx_intro (ls := [vR (some (0, 0)), vI l, vI w]) om_X11_seen rfl (Nat.le_of_ble_eq_true rfl) ?_
  refine r_aload_n (dc kc_X11_seen 0 rfl) rfl <| s_getO (dc kc_X11_seen 1 rfl) fl_X11_26 hnow <| s_getO (dc kc_X11_seen 2 rfl) fl_X11_84 (ly_5_1 hL (by assumption)) <| s_iload_n (dc kc_X11_seen 3 rfl) rfl <| c_v1r (dc kc_X11_seen 4 rfl) cl_X11_136 rfl (Nat.le_of_ble_eq_true rfl) (Nat.zero_le _) (Nat.zero_le _) <| u_has <| s_if_neb (tgt := 16) (dc kc_X11_seen 5 rfl) rfl (fun c11 => (?_)) (fun c11 => (k_i (dc kc_X11_seen 6 rfl) rfl <| s_ireturn (dc kc_X11_seen 7 rfl) rfl (Nat.zero_le _) (Nat.zero_le _) ?_))
  · have hh := rH.2.2.2.2 l (by omega) (by omega)
    by_cases h0 : w = 0
    · refine s_iload_n (dc kc_X11_seen 8 rfl) rfl <| s_tabC (k0 := 0) (tgt := 44) (dc kc_X11_seen 9 rfl) ?_ rfl rfl rfl <| r_aload_n (dc kc_X11_seen 10 rfl) rfl <| s_getO (dc kc_X11_seen 11 rfl) fl_X11_26 hnow <| s_getO (dc kc_X11_seen 12 rfl) fl_X11_97 (ly_5_4 hL (by assumption)) <| s_getA (dc kc_X11_seen 13 rfl) fl_X11_243 (ly_40_3 hL (by assumption)) <| s_iload_n (dc kc_X11_seen 14 rfl) rfl <| s_iaload (dc kc_X11_seen 15 rfl) rfl (by first | omega | (simp [up] <;> omega)) (by first | omega | (simp [up] <;> omega)) <| s_ireturn (dc kc_X11_seen 16 rfl) rfl (Nat.zero_le _) (Nat.zero_le _) ?_
      · exact h0
      · rw [if_pos (by omega), h0, show 110 + 3 * l + 0 = 110 + 3 * l by omega] at hQ; rw [hh.1]; exact hQ
    · by_cases h1 : w = 1
      · refine s_iload_n (dc kc_X11_seen 8 rfl) rfl <| s_tabC (k0 := 1) (tgt := 57) (dc kc_X11_seen 9 rfl) ?_ rfl rfl rfl <| r_aload_n (dc kc_X11_seen 17 rfl) rfl <| s_getO (dc kc_X11_seen 18 rfl) fl_X11_26 hnow <| s_getO (dc kc_X11_seen 19 rfl) fl_X11_97 (ly_5_4 hL (by assumption)) <| s_getA (dc kc_X11_seen 20 rfl) fl_X11_246 (ly_40_4 hL (by assumption)) <| s_iload_n (dc kc_X11_seen 21 rfl) rfl <| s_iaload (dc kc_X11_seen 22 rfl) rfl (by first | omega | (simp [up] <;> omega)) (by first | omega | (simp [up] <;> omega)) <| s_ireturn (dc kc_X11_seen 23 rfl) rfl (Nat.zero_le _) (Nat.zero_le _) ?_
        · exact h1
        · rw [if_pos (by omega), h1] at hQ; rw [hh.2.1]; exact hQ
      · by_cases h2 : w = 2
        · refine s_iload_n (dc kc_X11_seen 8 rfl) rfl <| s_tabC (k0 := 2) (tgt := 70) (dc kc_X11_seen 9 rfl) ?_ rfl rfl rfl <| r_aload_n (dc kc_X11_seen 24 rfl) rfl <| s_getO (dc kc_X11_seen 25 rfl) fl_X11_26 hnow <| s_getO (dc kc_X11_seen 26 rfl) fl_X11_97 (ly_5_4 hL (by assumption)) <| s_getA (dc kc_X11_seen 27 rfl) fl_X11_249 (ly_40_5 hL (by assumption)) <| s_iload_n (dc kc_X11_seen 28 rfl) rfl <| s_iaload (dc kc_X11_seen 29 rfl) rfl (by first | omega | (simp [up] <;> omega)) (by first | omega | (simp [up] <;> omega)) <| s_ireturn (dc kc_X11_seen 30 rfl) rfl (Nat.zero_le _) (Nat.zero_le _) ?_
          · exact h2
          · rw [if_pos (by omega), h2] at hQ; rw [hh.2.2]; exact hQ
        · refine s_iload_n (dc kc_X11_seen 8 rfl) rfl <| s_tabD (tgt := 83) (dc kc_X11_seen 9 rfl) ?_ rfl <| k_i (dc kc_X11_seen 31 rfl) rfl <| s_ireturn (dc kc_X11_seen 32 rfl) rfl (Nat.zero_le _) (Nat.zero_le _) ?_
          · omega
          · rw [if_neg (by omega)] at hQ; exact hQ
  · rw [if_neg (by omega)] at hQ; exact hQ
theorem u_ccell (hL : Lay G mr) {mi : MI} {g : Nat} {ρ : Int → Int} {B c w : Int} (hnow : mr 0 0 4 = some (g, 5)) (hg : g < G) (hR : Rep (-1) mi g ρ) (hI : Inv B ρ) (hQ : Q (vI (celR ρ c w)) mi n mr) : Tx (d+3) mt_X11_cell [vR (some (0, 0)), vI c, vI w] mi n mr Q := by
  have hok : okI G 5 g := hg
  have hok3 : okI G 30 g := hg
  have hok4 : okI G 15 g := Or.inl hg
  obtain ⟨rW, rL, rN, rJ, rS, rH, rC⟩ := id hR
  refine tx_intro (ls := [vR (some (0, 0)), vI c, vI w]) om_X11_cell rfl (Nat.le_of_ble_eq_true rfl) ?_
  unfold celR at hQ
  refine s_iload_n (dc kc_X11_cell 0 rfl) rfl <| c_s1r (dc kc_X11_cell 1 rfl) cl_X11_169 rfl (Nat.le_of_ble_eq_true rfl) (Nat.zero_le _) (Nat.zero_le _) <| u_isCell <| s_if_neb (tgt := 11) (dc kc_X11_cell 2 rfl) rfl (fun c4 => (?_)) (fun c4 => (k_s (dc kc_X11_cell 3 rfl) rfl <| s_ireturn (dc kc_X11_cell 4 rfl) rfl (Nat.zero_le _) (Nat.zero_le _) ?_))
  · rw [if_pos (by omega)] at hQ
    by_cases h0 : w = 0
    · rw [if_pos h0] at hQ
      refine s_iload_n (dc kc_X11_cell 5 rfl) rfl <| s_tabC (k0 := 0) (tgt := 44) (dc kc_X11_cell 6 rfl) ?_ rfl rfl rfl <| r_aload_n (dc kc_X11_cell 7 rfl) rfl <| s_getO (dc kc_X11_cell 8 rfl) fl_X11_26 hnow <| s_getO (dc kc_X11_cell 9 rfl) fl_X11_140 (ly_5_0 hL (by assumption)) <| s_getA (dc kc_X11_cell 10 rfl) fl_X11_144 (ly_15_0 hL (by assumption)) <| s_iload_n (dc kc_X11_cell 11 rfl) rfl <| s_iaload (dc kc_X11_cell 12 rfl) rfl (by first | omega | (simp [up] <;> omega)) (by first | omega | (simp [up] <;> omega)) <| s_ireturn (dc kc_X11_cell 13 rfl) rfl (Nat.zero_le _) (Nat.zero_le _) ?_
      · exact h0
      · rw [rW.1 c (by omega) (by omega)]; exact hQ
    · rw [if_neg h0] at hQ
      by_cases h1 : w = 1
      · rw [if_pos h1] at hQ
        refine s_iload_n (dc kc_X11_cell 5 rfl) rfl <| s_tabC (k0 := 1) (tgt := 57) (dc kc_X11_cell 6 rfl) ?_ rfl rfl rfl <| r_aload_n (dc kc_X11_cell 14 rfl) rfl <| s_getO (dc kc_X11_cell 15 rfl) fl_X11_26 hnow <| s_getO (dc kc_X11_cell 16 rfl) fl_X11_140 (ly_5_0 hL (by assumption)) <| s_iload_n (dc kc_X11_cell 17 rfl) rfl <| c_v1r (dc kc_X11_cell 18 rfl) cl_X11_172 rfl (Nat.le_of_ble_eq_true rfl) (Nat.zero_le _) (Nat.zero_le _) <| u_markOf <| s_ireturn (dc kc_X11_cell 19 rfl) rfl (Nat.zero_le _) (Nat.zero_le _) ?_
        · exact h1
        · rw [rW.2]; exact hQ
      · rw [if_neg h1] at hQ
        by_cases h2 : w = 2
        · rw [if_pos h2] at hQ
          refine s_iload_n (dc kc_X11_cell 5 rfl) rfl <| s_tabC (k0 := 2) (tgt := 69) (dc kc_X11_cell 6 rfl) ?_ rfl rfl rfl <| r_aload_n (dc kc_X11_cell 20 rfl) rfl <| s_getO (dc kc_X11_cell 21 rfl) fl_X11_26 hnow <| s_getA (dc kc_X11_cell 22 rfl) fl_X11_175 (ly_5_7 hL (by assumption)) <| s_iload_n (dc kc_X11_cell 23 rfl) rfl <| s_iaload (dc kc_X11_cell 24 rfl) rfl (by first | omega | (simp [up] <;> omega)) (by first | omega | (simp [up] <;> omega)) <| s_ireturn (dc kc_X11_cell 25 rfl) rfl (Nat.zero_le _) (Nat.zero_le _) ?_
          · exact h2
          · rw [rC.2.2.1 c (by omega) (by omega)]; exact hQ
        · rw [if_neg h2] at hQ
          by_cases h3 : w = 3
          · rw [if_pos h3] at hQ
            refine s_iload_n (dc kc_X11_cell 5 rfl) rfl <| s_tabC (k0 := 3) (tgt := 79) (dc kc_X11_cell 6 rfl) ?_ rfl rfl rfl <| r_aload_n (dc kc_X11_cell 26 rfl) rfl <| s_getO (dc kc_X11_cell 27 rfl) fl_X11_26 hnow <| s_getO (dc kc_X11_cell 28 rfl) fl_X11_127 (ly_5_3 hL (by assumption)) <| s_iload_n (dc kc_X11_cell 29 rfl) rfl <| c_v1r (dc kc_X11_cell 30 rfl) cl_X11_178 rfl (Nat.le_of_ble_eq_true rfl) (Nat.zero_le _) (Nat.zero_le _) ?_
            · exact h3
            · refine u_latestLine hL hg rJ hI.1.2.2.2.1 ?_
              refine s_ireturn (dc kc_X11_cell 31 rfl) rfl (Nat.zero_le _) (Nat.zero_le _) ?_
              exact hQ
          · rw [if_neg h3] at hQ
            refine s_iload_n (dc kc_X11_cell 5 rfl) rfl <| s_tabD (tgt := 91) (dc kc_X11_cell 6 rfl) ?_ rfl <| k_s (dc kc_X11_cell 32 rfl) rfl <| s_ireturn (dc kc_X11_cell 33 rfl) rfl (Nat.zero_le _) (Nat.zero_le _) ?_
            · omega
            · exact hQ
  · rw [if_neg (by omega)] at hQ; exact hQ
end PB7
