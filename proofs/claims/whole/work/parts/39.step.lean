/-! the reference: steps keep what is true of the row; step(n) -/
/-- counts are of 32 bits; what else is within bounds -/
def InvC (ρ : Int → Int) : Prop := (∀ k, 1 ≤ k → k ≤ 6 → rg (ρ k)) ∧ (∀ i, 0 ≤ i → i < 5 → 1 ≤ ρ (102 + i) ∧ ρ (102 + i) ≤ 9) ∧ (0 ≤ ρ 11 ∧ ρ 11 ≤ 3) ∧ (0 ≤ ρ 15 ∧ ρ 15 ≤ 16777215) ∧ (ρ 14 = 0 ∨ ρ 14 = 1) ∧ (0 ≤ ρ 9 ∧ ρ 9 ≤ 1000) ∧ (ρ 12 = -1 ∨ 0 ≤ ρ 12) ∧ (0 ≤ ρ 3 ∧ ρ 3 ≤ ρ 0) ∧ ρ 18 = (if ρ 3 < 100 then ρ 3 else 100) ∧ rg (ρ 19)
def Inv (B : Int) (ρ : Int → Int) : Prop := Inv0 ρ ∧ InvW ρ ∧ InvC ρ ∧ ρ 0 ≤ B
theorem w32_rg (x : Int) : rg (w32 x) := by
  unfold w32 rg
  exact ⟨by have := Int.le_bmod (x := x) (m := 4294967296) (by decide); omega, by have := Int.bmod_lt (x := x) (m := 4294967296) (by decide); omega⟩
theorem stp7_off {ρ : Int → Int} {k : Int} (hk : k ≠ 6 ∧ (k < 110 ∨ 146 ≤ k)) (h16 : 0 ≤ ρ 16 ∧ ρ 16 ≤ 12) : stp7 ρ k = stp5 ρ k := by
  unfold stp7
  split
  · unfold stp6; exact f1_off (by omega)
  · rw [f2_off hk.1 (by omega)]; unfold stp6; exact f1_off (by omega)
section STP
variable {ρ : Int → Int}
theorem stp1_InvW (hI : Inv0 ρ) (hW : InvW ρ) (h17 : 0 < ρ 17) : InvW (stp1 ρ) ∧ stp1 ρ 0 = ρ 0 ∧ stp1 ρ 17 = ρ 17 ∧ (0 ≤ stp1 ρ 8 ∧ stp1 ρ 8 ≤ 200) ∧ VC (clR (stp1 ρ)) := by
  have hw := hI.2.2.2.2.2.2.2.2.2 _ hI.2.2.1.1 (hI.2.2.1.2 h17)
  have h8 := hI.2.2.2.1
  exact ⟨(InvW_lnR (j := ρ 7) (s := ρ 0) h8.1 h8.2 hW hI.1 hw hI.2.1.1 (Int.le_refl _) (fun w g0 g1 => (hW.1 w g0 g1).2.2.2.1.2) hW.2.2.2.2.2).1, lnR_off hI.1 hw h8.1 h8.2 (by omega), lnR_off hI.1 hw h8.1 h8.2 (by omega), lnR_8 hI.1 hw h8.1 h8.2, lnR_VC hI.1 hw h8.1 h8.2⟩
theorem stp3_cl2 (hI : Inv0 ρ) (h17 : 0 < ρ 17) {k : Int} (hk : k ≠ 1 ∧ k ≠ 2 ∧ k ≠ 3 ∧ k ≠ 4 ∧ k ≠ 7 ∧ k ≠ 18 ∧ (k < 146 ∨ 246 ≤ k)) : stp3 ρ k = stp1 ρ k := by
  have h18 := hI.2.2.2.2.2.2.2.1
  have e18 := stp2_off hI h17 (k := 18) (by omega)
  have e : stp2 ρ k = stp1 ρ k := by unfold stp2; rw [inc_off (by omega), inc_off (by omega), ud_ne (by omega)]
  unfold stp3
  split
  · unfold payR
    split
    · rw [inc_off (by omega), ud_ne (by omega)]
      unfold payB
      rw [inc_off (by omega), inc_off (by omega), e]
    · unfold payB
      rw [inc_off (by omega), inc_off (by omega), e]
  · exact e
theorem stp4_InvW (hI : Inv0 ρ) (hW : InvW ρ) (h17 : 0 < ρ 17) : InvW (stp4 ρ) := by
  have h1 := stp1_InvW hI hW h17
  have h3 : InvW (stp3 ρ) := h1.1.cong h1.2.2.2.1.2 (fun k z => by unfold rlW at z; exact stp3_cl2 hI h17 (by omega))
  have h7 := hI.2.2.1
  have h7' := h7.2 h17
  have h0 := hI.2.1
  have e : ∀ k, (k < 246 ∨ 646 ≤ k) → stp4 ρ k = stp3 ρ k := fun k z => by unfold stp4; rw [ud_ne (by omega), ud_ne (by omega)]
  have e17 : stp3 ρ 17 = ρ 17 := by rw [stp3_cl2 hI h17 (by omega), h1.2.2.1]
  refine ⟨fun w g0 g1 => ?_, fun w g0 g1 => ?_, fun s g0 g1 => ?_, ?_, ?_⟩
  · rw [e 8 (by omega)] at g1
    rw [e _ (by omega), e _ (by omega), e _ (by omega), e _ (by omega), e _ (by omega), e _ (by omega)]
    exact h3.1 w g0 g1
  · rw [e 8 (by omega)] at g1
    rw [e _ (by omega), e _ (by omega)]
    exact h3.2.1 w g0 g1
  · rw [e 17 (by omega), e17]
    unfold stp4
    by_cases e1 : s = ρ 0 % 200
    · rw [ud_ne (by omega), ← e1, ud_at]
      omega
    · rw [ud_ne (by omega), ud_ne (by omega)]
      have := h3.2.2.1 s g0 g1
      rw [e17] at this
      exact this
  · rw [e 17 (by omega), e 0 (by omega)]; exact h3.2.2.2.1
  · rw [e 20 (by omega), e 0 (by omega)]; exact h3.2.2.2.2
theorem stp5_low (hI : Inv0 ρ) (h17 : 0 < ρ 17) {k : Int} (hk : k ≠ 5 ∧ k ≠ 8 ∧ k ≠ 10 ∧ k ≠ 20 ∧ (k < 30 ∨ 54 ≤ k ∧ k < 646 ∨ 2046 ≤ k)) : stp5 ρ k = stp4 ρ k := by
  have h8 := stp4_8 hI h17
  unfold stp5
  exact lotR_off h8.1 h8.2 hk
theorem stp4_low {k : Int} (hk : k < 246 ∨ 646 ≤ k) : stp4 ρ k = stp3 ρ k := by
  unfold stp4; rw [ud_ne (by omega), ud_ne (by omega)]
/-- paid and told out -/
theorem stp3_pay (hI : Inv0 ρ) (hC : InvC ρ) (h17 : 0 < ρ 17) : (0 ≤ stp3 ρ 3 ∧ stp3 ρ 3 ≤ ρ 0 + 1) ∧ stp3 ρ 18 = (if stp3 ρ 3 < 100 then stp3 ρ 3 else 100) := by
  have h18 := hI.2.2.2.2.2.2.2.1
  have h0 := hI.2.1
  have e18 := stp2_off hI h17 (k := 18) (by omega)
  have e3 := stp2_off hI h17 (k := 3) (by omega)
  have h3 := hC.2.2.2.2.2.2.2.1
  have hr := hC.2.2.2.2.2.2.2.2.1
  have h01 : mkd ρ (lnO ρ (ρ 7)).2.2.2 = 0 ∨ mkd ρ (lnO ρ (ρ 7)).2.2.2 = 1 := bi_01
  unfold stp3
  by_cases e : rcS ρ = 4
  · rw [if_pos e]
    generalize mkd ρ (lnO ρ (ρ 7)).2.2.2 = h at *
    unfold payR payB
    have b3 : inc (inc (stp2 ρ) 4 h) 3 (1 - h) 3 = ρ 3 + (1 - h) := by
      show ud _ 3 _ 3 = _
      rw [ud_at, inc_off (by omega), e3, w32_id (by omega) (by omega)]
    have b18 : inc (inc (stp2 ρ) 4 h) 3 (1 - h) 18 = ρ 18 := by rw [inc_off (by omega), inc_off (by omega), e18]
    by_cases e2 : h = 0 ∧ stp2 ρ 18 < 100
    · rw [if_pos e2, inc_off (by omega), ud_ne (by omega), b3]
      have : inc (ud (inc (inc (stp2 ρ) 4 h) 3 (1 - h)) (146 + stp2 ρ 18) (lnO ρ (ρ 7)).2.2.1) 18 1 18 = ρ 18 + 1 := by
        show ud _ 18 _ 18 = _
        rw [ud_at, ud_ne (by omega), b18, w32_id (by omega) (by omega)]
      rw [this]
      rw [e18] at e2
      split at hr <;> split <;> omega
    · rw [if_neg e2, b3, b18]
      rw [e18] at e2
      split at hr <;> split <;> omega
  · rw [if_neg e, e3, e18]
    exact ⟨by omega, hr⟩
theorem inc_rg {k v i : Int} (h : rg (ρ i)) : rg (inc ρ k v i) := by
  by_cases e : i = k
  · subst e
    show rg (ud ρ i _ i)
    rw [ud_at]; exact w32_rg _
  · rw [inc_off e]; exact h
theorem mkR_rg {c b : Int} : rg (mkR ρ c b 19) := by
  unfold mkR
  rw [ud_at]
  split
  · exact bClr_rg _ _
  · exact bSet_rg _ _
theorem stpR_Inv {B : Int} (hI : Inv B ρ) (hB : B < 1000000) (h17 : 0 < ρ 17) : Inv (B + 1) (stpR ρ) := by
  obtain ⟨hI, hW, hC, hB0⟩ := hI
  have h16 := hI.2.2.2.2.2.1
  have h18 := hI.2.2.2.2.2.2.2.1
  have h0 := hI.2.1
  have h7 := hI.2.2.1
  have h48 := stp4_8 hI h17
  have h1 := stp1_InvW hI hW h17
  have e7 : ∀ k, k ≠ 0 → k ≠ 6 → (k < 110 ∨ 146 ≤ k) → stpR ρ k = stp5 ρ k := fun k z0 z1 z2 => by
    unfold stpR; rw [ud_ne z0, stp7_off ⟨z1, z2⟩ h16]
  have e0 : stpR ρ 0 = ρ 0 + 1 := by unfold stpR; rw [ud_at]
  have efx : ∀ k, k ≠ 0 → k ≠ 1 ∧ k ≠ 2 ∧ k ≠ 3 ∧ k ≠ 4 ∧ k ≠ 5 ∧ k ≠ 6 ∧ k ≠ 7 ∧ k ≠ 8 ∧ k ≠ 10 ∧ k ≠ 18 ∧ k ≠ 20 ∧ k ≠ 19 ∧ (k < 30 ∨ 54 ≤ k ∧ k < 110 ∨ 2046 ≤ k) → stpR ρ k = ρ k := fun k z0 z => by
    rw [e7 k z0 (by omega) (by omega)]; exact stp5_off hI h17 (by omega)
  have hhi : hiEq ρ (stpR ρ) := fun k hk => efx k (by omega) (by omega)
  have h57 : stp5 ρ 7 = (ρ 7 + 1) % ρ 17 := by
    rw [stp5_low hI h17 (by omega), stp4_low (by omega)]
    have h2 : stp2 ρ 7 = (ρ 7 + 1) % ρ 17 := by unfold stp2; rw [inc_off (by omega), inc_off (by omega), ud_at]
    have e18 := stp2_off hI h17 (k := 18) (by omega)
    unfold stp3
    split
    · unfold payR
      split
      · rw [inc_off (by omega), ud_ne (by omega)]; unfold payB; rw [inc_off (by omega), inc_off (by omega), h2]
      · unfold payB; rw [inc_off (by omega), inc_off (by omega), h2]
    · exact h2
  have hp := stp3_pay hI hC h17
  have e3 : stpR ρ 3 = stp3 ρ 3 := by rw [e7 3 (by omega) (by omega) (by omega), stp5_low hI h17 (by omega), stp4_low (by omega)]
  have e18 : stpR ρ 18 = stp3 ρ 18 := by rw [e7 18 (by omega) (by omega) (by omega), stp5_low hI h17 (by omega), stp4_low (by omega)]
  have e17 : stpR ρ 17 = ρ 17 := efx 17 (by omega) (by omega)
  have e16 : stpR ρ 16 = ρ 16 := efx 16 (by omega) (by omega)
  have hV : VC (clR (stpR ρ)) := (stp5_VC hI h17).ag (fun i g0 g1 => e7 _ (by omega) (by omega) (by omega))
  have hW5 : InvW (stp5 ρ) := by
    unfold stp5
    have h40 : stp4 ρ 0 = ρ 0 := stp4_off hI h17 (by omega)
    exact InvW_lotR (by rw [h40]; exact h0.1) h48.1 h48.2 (stp4_InvW hI hW h17) (stp4_VC hI h17)
  have h58 : 0 ≤ stp5 ρ 8 ∧ stp5 ρ 8 ≤ 200 := lotR_8 h48.1 h48.2
  have h50 : stp5 ρ 0 = ρ 0 := stp5_off hI h17 (by omega)
  refine ⟨⟨hV, ?_, ?_, ?_, ?_, ?_, ?_, ?_, ?_, ?_⟩, ?_, ?_, ?_⟩
  · rw [e0]; omega
  · rw [e17, e7 7 (by omega) (by omega) (by omega), h57]
    exact ⟨Int.emod_nonneg _ (by omega), fun _ => Int.emod_lt_of_pos _ h17⟩
  · rw [e7 8 (by omega) (by omega) (by omega)]; exact h58
  · rw [e7 10 (by omega) (by omega) (by omega)]
    unfold stp5
    refine lotR_10 h48.1 h48.2 ?_
    rw [stp4_off hI h17 (by omega)]; exact hI.2.2.2.2.1
  · rw [e16]; exact h16
  · rw [e17]; exact hI.2.2.2.2.2.2.1
  · rw [e18, efx 13 (by omega) (by omega)]
    have := hp.2
    split at this <;> omega
  · intro l g0 g1
    rw [e16] at g1
    exact (hI.2.2.2.2.2.2.2.2.1 l g0 g1).hi hhi g0
  · intro j g0 g1
    rw [e17] at g1
    exact (hI.2.2.2.2.2.2.2.2.2 j g0 g1).hi hhi g0
  · refine ⟨fun w g0 g1 => ?_, fun w g0 g1 => ?_, fun s g0 g1 => ?_, ?_, ?_⟩
    · rw [e7 8 (by omega) (by omega) (by omega)] at g1
      rw [e0, e7 _ (by omega) (by omega) (by omega), e7 _ (by omega) (by omega) (by omega), e7 _ (by omega) (by omega) (by omega), e7 _ (by omega) (by omega) (by omega), e7 20 (by omega) (by omega) (by omega)]
      have := hW5.1 w g0 g1
      rw [h50] at this
      exact ⟨this.1, this.2.1, this.2.2.1, ⟨this.2.2.2.1.1, by omega⟩, this.2.2.2.2⟩
    · rw [e7 8 (by omega) (by omega) (by omega)] at g1
      rw [e7 _ (by omega) (by omega) (by omega), e7 _ (by omega) (by omega) (by omega)]
      exact hW5.2.1 w g0 g1
    · rw [e7 17 (by omega) (by omega) (by omega), e7 _ (by omega) (by omega) (by omega)]
      exact hW5.2.2.1 s g0 g1
    · rw [e17]; omega
    · rw [e0, e7 20 (by omega) (by omega) (by omega)]
      have := hW5.2.2.2.2
      omega
  · obtain ⟨hc1, hc2, hc3, hc4, hc5, hc6, hc7, hc8, hc9, hc10⟩ := hC
    refine ⟨fun k g0 g1 => ?_, fun i g0 g1 => ?_, ?_, ?_, ?_, ?_, ?_, ?_, ?_, ?_⟩
    · have k3 : ∀ k, 1 ≤ k → k ≤ 6 → rg (stp3 ρ k) := by
        intro k g0 g1
        have hw := hI.2.2.2.2.2.2.2.2.2 _ h7.1 (h7.2 h17)
        have b1 : rg (stp1 ρ k) := by
          unfold stp1
          rw [lnR_off hI.1 hw hI.2.2.2.1.1 hI.2.2.2.1.2 (by omega)]
          exact hc1 k g0 g1
        have b2 : rg (stp2 ρ k) := by
          unfold stp2
          refine inc_rg (inc_rg ?_)
          rw [ud_ne (by omega)]; exact b1
        have e18' := stp2_off hI h17 (k := 18) (by omega)
        unfold stp3
        split
        · unfold payR
          split
          · refine inc_rg ?_
            rw [ud_ne (by omega)]
            exact inc_rg (inc_rg b2)
          · exact inc_rg (inc_rg b2)
        · exact b2
      have k5 : ∀ k, 1 ≤ k → k ≤ 6 → rg (stp5 ρ k) := by
        intro k g0 g1
        have b4 : rg (stp4 ρ k) := by rw [stp4_low (by omega)]; exact k3 k g0 g1
        by_cases e5 : k = 5
        · subst e5
          unfold stp5 lotR
          split
          · exact b4
          · split
            · rw [drw_ne (by omega)]; exact b4
            · refine inc_rg ?_
              have := lotC_rg (ρ := stp4 ρ)
              rw [flipR_off (by rw [drw3 (by omega)]; exact h48.1) (by rw [drw3 (by omega)]; exact h48.2) (by omega), drw3 (by omega)]
              exact b4
        · rw [stp5_low hI h17 (by omega)]; exact b4
      by_cases e6 : k = 6
      · subst e6
        unfold stpR
        rw [ud_ne (by omega)]
        have b6 : rg (stp6 ρ 6) := by unfold stp6; rw [f1_off (by omega)]; exact k5 6 (by omega) (by omega)
        unfold stp7
        split
        · exact b6
        · unfold f2
          rw [if_pos rfl]
          split
          · exact b6
          · exact w32_rg _
      · rw [e7 k (by omega) e6 (by omega)]; exact k5 k g0 g1
    · rw [efx _ (by omega) (by omega)]; exact hc2 i g0 g1
    · rw [efx _ (by omega) (by omega)]; exact hc3
    · rw [efx _ (by omega) (by omega)]; exact hc4
    · rw [efx _ (by omega) (by omega)]; exact hc5
    · rw [efx _ (by omega) (by omega)]; exact hc6
    · rw [efx _ (by omega) (by omega)]; exact hc7
    · rw [e3, e0]; omega
    · rw [e18, e3]; exact hp.2
    · rw [e7 19 (by omega) (by omega) (by omega), stp5_low hI h17 (by omega), stp4_low (by omega), stp3_cl2 hI h17 (by omega)]
      unfold stp1 lnR
      split
      · exact mkR_rg
      · exact hc10
  · rw [e0]; omega
theorem stpR_17 (hI : Inv0 ρ) (h17 : 0 < ρ 17) : stpR ρ 17 = ρ 17 := by
  unfold stpR
  rw [ud_ne (by omega), stp7_off (by omega) hI.2.2.2.2.2.1]
  exact stp5_off hI h17 (by omega)
theorem stpN_Inv {B : Int} (hI : Inv B ρ) (h17 : 0 < ρ 17) : ∀ k : Nat, B + k ≤ 1000000 → Inv (B + k) (stpN ρ k) ∧ stpN ρ k 17 = ρ 17
  | 0, _ => ⟨by rw [show B + ((0 : Nat) : Int) = B by omega]; exact hI, rfl⟩
  | k + 1, hk => by
    have ih := stpN_Inv hI h17 k (by omega)
    have h := stpR_Inv ih.1 (by omega) (by rw [ih.2]; exact h17)
    rw [show B + ((k + 1 : Nat) : Int) = B + k + 1 by omega]
    exact ⟨h, by rw [stpN, stpR_17 ih.1.1 (by rw [ih.2]; exact h17), ih.2]⟩
end STP
section PUB4
variable {d n G : Nat} {mr : MR} {Q : V → MI → Nat → MR → Prop}
theorem t_step (hL : Lay G mr) {mi : MI} {x B : Int} (hI : Inv B (mi 0 81)) (hB : B + 64 ≤ 1000000) (hQ1 : ¬ (1 ≤ x ∧ x ≤ 64) → ∀ mi', Ch pT mi mi' → mi' 0 80 1 = -1 → Q (vI (-1)) mi' n mr) (hQ2 : 1 ≤ x → x ≤ 64 → mi 0 81 17 = 0 → ∀ mi', Ch pT mi mi' → mi' 0 80 1 = -3 → Q (vI (-3)) mi' n mr) (hQ3 : 1 ≤ x → x ≤ 64 → mi 0 81 17 ≠ 0 → ∀ mi', Ch pZ mi mi' → mi' 0 80 1 = 0 → mi' 0 80 33 = 0 → mi' 0 81 = stpN (mi 0 81) x.toNat → Q (vI (stpN (mi 0 81) x.toNat 0)) mi' n mr) : Tx (d+9) mt_X12_step [vR (some (0, 80)), vI x] mi n mr Q := by
  refine tx_intro (ls := [vR (some (0, 80)), vI x, vX 0]) om_X12_step rfl (Nat.le_of_ble_eq_true rfl) ?_
  have e81 : up mi 0 80 0 0 0 81 = mi 0 81 := up_j (by decide)
  have h17 := hI.1.2.2.2.2.2.2.1
  refine r_aload_n (dc kc_X12_step_0 0 rfl) rfl <| k_i (dc kc_X12_step_0 1 rfl) rfl <| s_putI (dc kc_X12_step_0 2 rfl) fl_X12_86 <| s_iload_n (dc kc_X12_step_0 3 rfl) rfl <| s_i2l (dc kc_X12_step_0 4 rfl) <| s_lconst1 (dc kc_X12_step_0 5 rfl) <| k_j (dc kc_X12_step_0 6 rfl) kj_X12_433 rfl (a := 64) (by decide) <| c_s3r (dc kc_X12_step_0 7 rfl) cl_X12_92 rfl (Nat.le_of_ble_eq_true rfl) (Nat.zero_le _) (Nat.zero_le _) <| t_in <| s_if_neb (tgt := 23) (dc kc_X12_step_0 8 rfl) rfl (fun c14 => (r_aload_n (dc kc_X12_step_0 13 rfl) rfl <| s_getA (dc kc_X12_step_0 14 rfl) fl_X12_7 (ly_80_2 hL) <| k_b (dc kc_X12_step_0 15 rfl) rfl <| s_iaload (dc kc_X12_step_0 16 rfl) rfl (by first | omega | (simp [up] <;> omega)) (by first | omega | (simp [up] <;> omega)) <| s_if_ne (tgt := 40) (dc kc_X12_step_0 17 rfl) rfl (fun c30 => (k_i (dc kc_X12_step_0 22 rfl) rfl <| t_i2 (dc kc_X12_step_0 23 rfl) (Nat.le_of_ble_eq_true rfl) rfl <| ?_)) (fun c30 => (r_aload_n (dc kc_X12_step_0 18 rfl) rfl <| k_b (dc kc_X12_step_0 19 rfl) rfl <| c_v1r (dc kc_X12_step_0 20 rfl) cl_X12_96 rfl (Nat.le_of_ble_eq_true rfl) (Nat.zero_le _) (Nat.zero_le _) <| t_tell <| s_ireturn (dc kc_X12_step_0 21 rfl) rfl (Nat.zero_le _) (Nat.zero_le _) ?_)))) (fun c14 => (r_aload_n (dc kc_X12_step_0 9 rfl) rfl <| k_i (dc kc_X12_step_0 10 rfl) rfl <| c_v1r (dc kc_X12_step_0 11 rfl) cl_X12_96 rfl (Nat.le_of_ble_eq_true rfl) (Nat.zero_le _) (Nat.zero_le _) <| t_tell <| s_ireturn (dc kc_X12_step_0 12 rfl) rfl (Nat.zero_le _) (Nat.zero_le _) ?_))
  · rw [e81] at c30
    have loop : ∀ i : Nat, i ≤ x.toNat → ∀ m : MI, Ch pZ mi m → m 0 81 = stpN (mi 0 81) i → Run (d+9) mt_X12_step Q (n, mr, 0, 0) m 42 [vR (some (0, 80)), vI x, vI (i : Int)] [] := by
      refine nloop ?_
      intro i hi ih m g em
      have hin := stpN_Inv hI (by omega) i (by omega)
      by_cases he : (i : Int) < x
      · refine s_iload_n (dc kc_X12_step_0 24 rfl) rfl <| s_iload_n (dc kc_X12_step_0 25 rfl) rfl <| s_icmp_ge (tgt := 57) (dc kc_X12_step_0 26 rfl) rfl (fun c44 => (?_)) (fun c44 => (r_aload_n (dc kc_X12_step_0 27 rfl) rfl <| c_v0 (dc kc_X12_step_0 28 rfl) cl_X12_435 rfl (Nat.le_of_ble_eq_true rfl) (Nat.zero_le _) (Nat.zero_le _) ?_))
        · exfalso; omega
        · refine t_oneStep hL (by rw [em]; exact hin.1.1) (by rw [em, hin.2]; omega) (fun m1 g1 e1 => ?_)
          refine b_inc2 (dc kc_X12_step_0 29 rfl) rfl (Nat.le_of_ble_eq_true rfl) rfl (by first | omega | (simp [up] <;> omega)) (by first | omega | (simp [up] <;> omega)) <| s_goto (tgt := 42) (dc kc_X12_step_0 30 rfl) rfl <| ?_
          exact ih (by omega) _ (g.tr (g1.mono (fun _ _ z => by simp [p0, pT, pA, pL, pG, pX, pZ, pI, pW, pR, pE, pD, pF, pS, p81] at z ⊢; omega))) (by rw [e1, em]; rfl)
      · refine s_iload_n (dc kc_X12_step_0 24 rfl) rfl <| s_iload_n (dc kc_X12_step_0 25 rfl) rfl <| s_icmp_ge (tgt := 57) (dc kc_X12_step_0 26 rfl) rfl (fun c44 => (r_aload_n (dc kc_X12_step_0 31 rfl) rfl <| k_i (dc kc_X12_step_0 32 rfl) rfl <| s_putI (dc kc_X12_step_0 33 rfl) fl_X12_100 <| r_aload_n (dc kc_X12_step_0 34 rfl) rfl <| r_aload_n (dc kc_X12_step_0 35 rfl) rfl <| s_getA (dc kc_X12_step_0 36 rfl) fl_X12_7 (ly_80_2 hL) <| k_i (dc kc_X12_step_0 37 rfl) rfl <| s_iaload (dc kc_X12_step_0 38 rfl) rfl (by first | omega | (simp [up] <;> omega)) (by first | omega | (simp [up] <;> omega)) <| c_v1r (dc kc_X12_step_0 39 rfl) cl_X12_96 rfl (Nat.le_of_ble_eq_true rfl) (Nat.zero_le _) (Nat.zero_le _) <| t_tell <| s_ireturn (dc kc_X12_step_1 0 rfl) rfl (Nat.zero_le _) (Nat.zero_le _) ?_)) (fun c44 => (?_))
        · rw [up_j (by decide), em, show i = x.toNat by omega]
          have hin := stpN_Inv hI (by omega) x.toNat (by omega)
          have := hin.1.1.2.1
          refine hQ3 c14.1 c14.2 c30 _ ((g.up rfl).up rfl) (by rw [up_at, if_neg (by omega)]) (by rw [up_k (by decide), up_at]) ?_
          rw [up_j (by decide), up_j (by decide), em, show i = x.toNat by omega]
        · exfalso; omega
    exact loop 0 (Nat.zero_le _) _ (Ch.rf.up rfl) e81
  · rw [e81] at c30
    exact hQ2 c14.1 c14.2 c30 _ ((Ch.rf.up rfl).up rfl) up_at
  · exact hQ1 c14 _ ((Ch.rf.up rfl).up rfl) up_at
end PUB4
