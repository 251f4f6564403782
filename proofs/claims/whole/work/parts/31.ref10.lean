/-! the reference: lots -/
def inc (ρ : Int → Int) (k v : Int) : Int → Int := ud ρ k (w32 (ρ k + v))
def drw (ρ : Int → Int) : Int → Int := ud ρ 10 ((ρ 10 * 1103 + 12345) % 1000003)
def flipR (ρ : Int → Int) (c v : Int) : Int → Int := ud (kw ρ (ρ 0) (-1) c v 0) (30 + c) v
def lotC (ρ : Int → Int) : Int := drw (drw ρ) 10 % 24
def lotV (ρ : Int → Int) : Int := if lotC ρ < 3 ∨ (6 ≤ lotC ρ ∧ lotC ρ % 3 ≠ 2) then drw (drw (drw ρ)) 10 % 7 - 1 else drw (drw (drw ρ)) 10 % 10
def lotR (ρ : Int → Int) : Int → Int := if ρ 9 ≤ 0 then ρ else if ρ 9 ≤ drw ρ 10 % 1000 then drw ρ else inc (flipR (drw (drw (drw ρ))) (lotC ρ) (lotV ρ)) 5 1
theorem drw_10 {ρ : Int → Int} : drw ρ 10 = (ρ 10 * 1103 + 12345) % 1000003 := by unfold drw; exact ud_at
theorem drw_rg {ρ : Int → Int} : 0 ≤ drw ρ 10 ∧ drw ρ 10 < 1000003 := by rw [drw_10]; omega
theorem drw_ne {ρ : Int → Int} {k : Int} (h : k ≠ 10) : drw ρ k = ρ k := ud_ne h
theorem lotC_rg {ρ : Int → Int} : 0 ≤ lotC ρ ∧ lotC ρ < 24 := by unfold lotC; omega
/-- what steps change of the row's lower part -/
def pF (j : Nat) (k : Int) : Bool := j == 81 || (j == 80 && k == 33)
def pS (j : Nat) (k : Int) : Bool := j == 81 || j == 85 || j == 92 || (j == 80 && (k == 7 || k == 8 || k == 9 || k == 30 || k == 31 || k == 32 || k == 33))
theorem pD_pS (j : Nat) (k : Int) (h : pD j k = true) : pS j k = true := by
  simp only [pD, pS, Bool.or_eq_true, Bool.and_eq_true, beq_iff_eq] at h ⊢; omega
theorem pE_pS (j : Nat) (k : Int) (h : pE j k = true) : pS j k = true := pD_pS j k (pE_pD j k h)
theorem pF_pS (j : Nat) (k : Int) (h : pF j k = true) : pS j k = true := by
  simp only [pF, pS, Bool.or_eq_true, Bool.and_eq_true, beq_iff_eq] at h ⊢; omega
section REF10
variable {d n G : Nat} {mr : MR} {Q : V → MI → Nat → MR → Prop}
theorem t_draw (hL : Lay G mr) {mi : MI} {x : Int} (h0 : 0 ≤ mi 0 81 10) (h1 : mi 0 81 10 < 1000003) (hx : 0 < x) (hQ : ∀ mi', Ch pF mi mi' → mi' 0 81 = drw (mi 0 81) → mi' 0 80 33 = mi 0 80 33 → Q (vI (drw (mi 0 81) 10 % x)) mi' n mr) : Tx (d+1) mt_X12_draw [vR (some (0, 80)), vI x] mi n mr Q := by
  refine tx_intro (ls := [vR (some (0, 80)), vI x]) om_X12_draw rfl (Nat.le_of_ble_eq_true rfl) ?_
  have e : up mi 0 81 10 ((mi 0 81 10 * 1103 + 12345) % 1000003) 0 81 10 = drw (mi 0 81) 10 := by rw [up_ud]; rfl
  have hr := drw_rg (ρ := mi 0 81)
  refine r_aload_n (dc kc_X12_draw 0 rfl) rfl <| s_getA (dc kc_X12_draw 1 rfl) fl_X12_7 (ly_80_2 hL) <| k_b (dc kc_X12_draw 2 rfl) rfl <| r_aload_n (dc kc_X12_draw 3 rfl) rfl <| s_getA (dc kc_X12_draw 4 rfl) fl_X12_7 (ly_80_2 hL) <| k_b (dc kc_X12_draw 5 rfl) rfl <| s_iaload (dc kc_X12_draw 6 rfl) rfl (by first | omega | (simp [up] <;> omega)) (by first | omega | (simp [up] <;> omega)) <| s_i2l (dc kc_X12_draw 7 rfl) <| k_j (dc kc_X12_draw 8 rfl) kj_X12_414 rfl (a := 1103) (by decide) <| b_lmul (dc kc_X12_draw 9 rfl) (by first | omega | (simp [up] <;> omega)) (by first | omega | (simp [up] <;> omega)) <| k_j (dc kc_X12_draw 10 rfl) kj_X12_416 rfl (a := 12345) (by decide) <| b_ladd (dc kc_X12_draw 11 rfl) (by first | omega | (simp [up] <;> omega)) (by first | omega | (simp [up] <;> omega)) <| k_j (dc kc_X12_draw 12 rfl) kj_X12_418 rfl (a := 1000003) (by decide) <| b_lrem (dc kc_X12_draw 13 rfl) (by first | omega | (simp [up] <;> omega)) (by first | omega | (simp [up] <;> omega)) <| b_l2i (dc kc_X12_draw 14 rfl) (by first | omega | (simp [up] <;> omega)) (by first | omega | (simp [up] <;> omega)) <| s_iastore (dc kc_X12_draw 15 rfl) rfl (by first | omega | (simp [up] <;> omega)) (by first | omega | (simp [up] <;> omega)) <| r_aload_n (dc kc_X12_draw 16 rfl) rfl <| s_getA (dc kc_X12_draw 17 rfl) fl_X12_7 (ly_80_2 hL) <| k_b (dc kc_X12_draw 18 rfl) rfl <| s_iaload (dc kc_X12_draw 19 rfl) rfl (by first | omega | (simp [up] <;> omega)) (by first | omega | (simp [up] <;> omega)) <| s_iload_n (dc kc_X12_draw 20 rfl) rfl <| b_irem (dc kc_X12_draw 21 rfl) (by first | omega | (simp [up] <;> omega)) (by first | omega | (simp [up] <;> omega)) <| s_ireturn (dc kc_X12_draw 22 rfl) rfl (Nat.zero_le _) (Nat.zero_le _) ?_
  rw [e]
  exact hQ _ (Ch.rf.up rfl) (by rw [up_ud]; rfl) (by rw [up_j (by decide)])
theorem t_drawLots (hL : Lay G mr) {mi : MI} (h0 : 0 ≤ mi 0 81 10) (h1 : mi 0 81 10 < 1000003) (h80 : 0 ≤ mi 0 81 8) (h81 : mi 0 81 8 ≤ 200) (hQ : ∀ mi', Ch pF mi mi' → mi' 0 81 = lotR (mi 0 81) → Q (vX 0) mi' n mr) : Tx (d+3) mt_X12_drawLots [vR (some (0, 80))] mi n mr Q := by
  refine tx_intro (ls := [vR (some (0, 80)), vX 0, vX 0]) om_X12_drawLots rfl (Nat.le_of_ble_eq_true rfl) ?_
  refine r_aload_n (dc kc_X12_drawLots_0 0 rfl) rfl <| s_getA (dc kc_X12_drawLots_0 1 rfl) fl_X12_7 (ly_80_2 hL) <| k_b (dc kc_X12_drawLots_0 2 rfl) rfl <| s_iaload (dc kc_X12_drawLots_0 3 rfl) rfl (by first | omega | (simp [up] <;> omega)) (by first | omega | (simp [up] <;> omega)) <| s_if_le (tgt := 75) (dc kc_X12_drawLots_0 4 rfl) rfl (fun c7 => (s_return (dc kc_X12_drawLots_1 2 rfl) rfl (Nat.zero_le _) (Nat.zero_le _) ?_)) (fun c7 => (?_))
  · refine hQ mi Ch.rf ?_
    unfold lotR
    rw [if_pos c7]
  · refine r_aload_n (dc kc_X12_drawLots_0 5 rfl) rfl <| k_s (dc kc_X12_drawLots_0 6 rfl) rfl <| c_v1r (dc kc_X12_drawLots_0 7 rfl) cl_X12_420 rfl (Nat.le_of_ble_eq_true rfl) (Nat.zero_le _) (Nat.zero_le _) ?_
    refine t_draw hL h0 h1 (by decide) (fun mi1 g1 e1 _ => ?_)
    have hr1 := drw_rg (ρ := mi 0 81)
    have e9 : mi1 0 81 9 = mi 0 81 9 := by rw [e1]; exact drw_ne (by decide)
    refine r_aload_n (dc kc_X12_drawLots_0 8 rfl) rfl <| s_getA (dc kc_X12_drawLots_0 9 rfl) fl_X12_7 (ly_80_2 hL) <| k_b (dc kc_X12_drawLots_0 10 rfl) rfl <| s_iaload (dc kc_X12_drawLots_0 11 rfl) rfl (by first | omega | (simp [up] <;> omega)) (by first | omega | (simp [up] <;> omega)) <| s_icmp_ge (tgt := 75) (dc kc_X12_drawLots_0 12 rfl) rfl (fun c24 => (s_return (dc kc_X12_drawLots_1 2 rfl) rfl (Nat.zero_le _) (Nat.zero_le _) ?_)) (fun c24 => (?_))
    · refine hQ mi1 g1 ?_
      unfold lotR
      rw [if_neg (by omega), if_pos (by omega), e1]
    · refine r_aload_n (dc kc_X12_drawLots_0 13 rfl) rfl <| k_b (dc kc_X12_drawLots_0 14 rfl) rfl <| c_v1r (dc kc_X12_drawLots_0 15 rfl) cl_X12_420 rfl (Nat.le_of_ble_eq_true rfl) (Nat.zero_le _) (Nat.zero_le _) ?_
      refine t_draw hL (by rw [e1]; omega) (by rw [e1]; omega) (by decide) (fun mi2 g2 e2 _ => ?_)
      rw [e1] at e2
      have hr2 := drw_rg (ρ := drw (mi 0 81))
      have hc := lotC_rg (ρ := mi 0 81)
      rw [e1, show drw (drw (mi 0 81)) 10 % 24 = lotC (mi 0 81) from rfl]
      have h8 : drw (drw (drw (mi 0 81))) 8 = mi 0 81 8 := by rw [drw_ne (by decide), drw_ne (by decide), drw_ne (by decide)]
      have fin : ∀ (mi3 : MI) (v : Int), Ch pF mi mi3 → mi3 0 81 = drw (drw (drw (mi 0 81))) → v = lotV (mi 0 81) → Run (d+3) mt_X12_drawLots Q (n, mr, 0, 0) mi3 58 [vR (some (0, 80)), vI (lotC (mi 0 81)), vX 0] [vI v] := by
        intro mi3 v g3 e3 ev
        subst ev
        refine t_i2 (dc kc_X12_drawLots_0 29 rfl) (Nat.le_of_ble_eq_true rfl) rfl <| r_aload_n (dc kc_X12_drawLots_0 30 rfl) rfl <| s_iload_n (dc kc_X12_drawLots_0 31 rfl) rfl <| s_iload_n (dc kc_X12_drawLots_0 32 rfl) rfl <| c_v2 (dc kc_X12_drawLots_0 33 rfl) cl_X12_397 rfl (Nat.le_of_ble_eq_true rfl) (Nat.zero_le _) (Nat.zero_le _) ?_
        refine t_flipCell hL (by rw [e3, h8]; exact h80) (by rw [e3, h8]; exact h81) hc.1 hc.2 (fun mi4 g4 e4 _ => ?_)
        refine r_aload_n (dc kc_X12_drawLots_0 34 rfl) rfl <| s_getA (dc kc_X12_drawLots_0 35 rfl) fl_X12_7 (ly_80_2 hL) <| k_i (dc kc_X12_drawLots_0 36 rfl) rfl <| s_dup2 (dc kc_X12_drawLots_0 37 rfl) rfl rfl <| s_iaload (dc kc_X12_drawLots_0 38 rfl) rfl (by first | omega | (simp [up] <;> omega)) (by first | omega | (simp [up] <;> omega)) <| k_i (dc kc_X12_drawLots_0 39 rfl) rfl <| s_iadd (dc kc_X12_drawLots_1 0 rfl) <| s_iastore (dc kc_X12_drawLots_1 1 rfl) rfl (by first | omega | (simp [up] <;> omega)) (by first | omega | (simp [up] <;> omega)) <| s_return (dc kc_X12_drawLots_1 2 rfl) rfl (Nat.zero_le _) (Nat.zero_le _) ?_
        refine hQ _ ((g3.tr g4).up rfl) ?_
        rw [up_ud, e4, e3]
        unfold lotR
        rw [if_neg (by omega), if_neg (by omega)]
        rfl
      refine t_i1 (dc kc_X12_drawLots_0 16 rfl) (Nat.le_of_ble_eq_true rfl) rfl <| s_iload_n (dc kc_X12_drawLots_0 17 rfl) rfl <| c_s1r (dc kc_X12_drawLots_0 18 rfl) cl_X12_79 rfl (Nat.le_of_ble_eq_true rfl) (Nat.zero_le _) (Nat.zero_le _) <| t_isNode (by first | omega | (simp [up] <;> omega)) <| s_if_eqb (tgt := 52) (dc kc_X12_drawLots_0 19 rfl) rfl (fun c38 => (?_)) (fun c38 => (?_))
      · refine r_aload_n (dc kc_X12_drawLots_0 26 rfl) rfl <| k_b (dc kc_X12_drawLots_0 27 rfl) rfl <| c_v1r (dc kc_X12_drawLots_0 28 rfl) cl_X12_420 rfl (Nat.le_of_ble_eq_true rfl) (Nat.zero_le _) (Nat.zero_le _) ?_
        refine t_draw hL (by rw [e2]; omega) (by rw [e2]; omega) (by decide) (fun mi3 g3 e3 _ => ?_)
        rw [e2] at e3 ⊢
        exact fin mi3 _ ((g1.tr g2).tr g3) e3 (by unfold lotV; rw [if_neg c38])
      · refine r_aload_n (dc kc_X12_drawLots_0 20 rfl) rfl <| k_b (dc kc_X12_drawLots_0 21 rfl) rfl <| c_v1r (dc kc_X12_drawLots_0 22 rfl) cl_X12_420 rfl (Nat.le_of_ble_eq_true rfl) (Nat.zero_le _) (Nat.zero_le _) ?_
        refine t_draw hL (by rw [e2]; omega) (by rw [e2]; omega) (by decide) (fun mi3 g3 e3 _ => ?_)
        rw [e2] at e3 ⊢
        have hr3 := drw_rg (ρ := drw (drw (mi 0 81)))
        refine k_i (dc kc_X12_drawLots_0 23 rfl) rfl <| b_isub (dc kc_X12_drawLots_0 24 rfl) (by first | omega | (simp [up] <;> omega)) (by first | omega | (simp [up] <;> omega)) <| s_goto (tgt := 58) (dc kc_X12_drawLots_0 25 rfl) rfl <| ?_
        exact fin mi3 _ ((g1.tr g2).tr g3) e3 (by unfold lotV; rw [if_pos c38])
end REF10
/-! what depends on texts alone -/
def hiEq (ρ ρ' : Int → Int) : Prop := ∀ i, 2046 ≤ i → ρ' i = ρ i
theorem slc_eq {ρ ρ' : Int → Int} {b : Int} : ∀ (m : Nat) (k : Int), (∀ i, b + 2 * k ≤ i → i < b + 2 * k + 2 * m → ρ' i = ρ i) → slc ρ' b m k = slc ρ b m k
  | 0, _, _ => rfl
  | m + 1, k, h => by rw [slc, slc, h _ (by omega) (by omega), h _ (by omega) (by omega), slc_eq m (k + 1) (fun i h1 h2 => h i (by omega) (by omega))]
theorem lawC_hi {ρ ρ' : Int → Int} (h : hiEq ρ ρ') {l : Int} (h0 : 0 ≤ l) (hs : ρ (2046 + 10 * l) = 4 → 0 ≤ ρ (2046 + 10 * l + 3)) : lawC ρ' l = lawC ρ l := by
  unfold lawC
  rw [h (2046 + 10 * l) (by omega), h (2046 + 10 * l + 1) (by omega), h (2046 + 10 * l + 2) (by omega), h (2046 + 10 * l + 3) (by omega), h (2046 + 10 * l + 4) (by omega)]
  by_cases e : ρ (2046 + 10 * l) = 4
  · rw [if_pos e, if_pos e, slc_eq _ _ (fun i h1 h2 => h i (by have := hs e; omega))]
  · rw [if_neg e, if_neg e]
theorem WfLaw.hi {ρ ρ' : Int → Int} (h : hiEq ρ ρ') {l : Int} (h0 : 0 ≤ l) (hw : WfLaw ρ l) : WfLaw ρ' l := by
  unfold WfLaw at hw ⊢
  rw [lawC_hi h h0 (fun e => (hw.2.2.1 e).1), h (2046 + 10 * l) (by omega), h (2046 + 10 * l + 3) (by omega), h (2046 + 10 * l + 4) (by omega)]
  exact hw
theorem tgtOf_hi {ρ ρ' : Int → Int} (h : hiEq ρ ρ') {j : Int} (h0 : 0 ≤ j) : tgtOf ρ' j = tgtOf ρ j := by
  unfold tgtOf
  rw [h (2166 + 10 * j) (by omega), h (2166 + 10 * j + 1) (by omega)]
theorem ln_hi {ρ ρ' : Int → Int} (h : hiEq ρ ρ') {j : Int} (h0 : 0 ≤ j) (hw : WfLine ρ j) : lnP ρ' j = lnP ρ j ∧ lnV ρ' j = lnV ρ j ∧ lnT ρ' j = lnT ρ j := by
  obtain ⟨-, hs, -⟩ := hw
  unfold lnP lnV lnT
  rw [h (2166 + 10 * j + 2) (by omega), h (2166 + 10 * j + 3) (by omega), h (2166 + 10 * j + 4) (by omega), h (2166 + 10 * j + 5) (by omega), h (2166 + 10 * j + 6) (by omega), h (2166 + 10 * j + 7) (by omega)]
  exact ⟨slc_eq _ _ (fun i h1 h2 => h i (by omega)), slc_eq _ _ (fun i h1 h2 => h i (by omega)), slc_eq _ _ (fun i h1 h2 => h i (by omega))⟩
theorem WfLine.hi {ρ ρ' : Int → Int} (h : hiEq ρ ρ') {j : Int} (h0 : 0 ≤ j) (hw : WfLine ρ j) : WfLine ρ' j := by
  have hl := ln_hi h h0 hw
  unfold WfLine WfTgt at hw ⊢
  rw [hl.1, hl.2.1, hl.2.2, tgtOf_hi h h0, h (2166 + 10 * j) (by omega), h (2166 + 10 * j + 1) (by omega), h (2166 + 10 * j + 2) (by omega), h (2166 + 10 * j + 3) (by omega), h (2166 + 10 * j + 4) (by omega), h (2166 + 10 * j + 5) (by omega), h (2166 + 10 * j + 6) (by omega), h (2166 + 10 * j + 7) (by omega)]
  exact hw
