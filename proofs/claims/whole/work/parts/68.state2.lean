/-! the class: writes taken back; what comes of a line -/
theorem RepJ_tk1 {mi : MI} {g : Nat} {ρ : Int → Int} {w : Int} (h : RepJ mi g ρ) (hw0 : 0 ≤ w) (hw : w < ρ 8) (hc : 0 ≤ ρ (646 + 7 * w + 2) ∧ ρ (646 + 7 * w + 2) < 24) : RepJ (up mi g 30 0 w) g (tk1 ρ w) := by
  refine ⟨by rw [up_at, tk1_8], by rw [up_k (by decide)]; exact h.2.1, by rw [up_k (by decide), tk1_off (by omega)]; exact h.2.2.1, fun v a b => ?_⟩
  rw [tk1_8] at b
  have := h.2.2.2 v a (by omega)
  unfold plc at *
  rw [up_k (by decide), up_j (by decide), up_j (by decide), up_j (by decide), up_j (by decide), up_j (by decide), up_j (by decide), tk1_off (by omega), tk1_off (by omega), tk1_off (by omega), tk1_off (by omega), tk1_off (by omega), tk1_off (by omega)]
  exact this
theorem tk1_cl {ρ : Int → Int} {w i : Int} (h0 : 0 ≤ i) : tk1 ρ w (30 + i) = if i = ρ (646 + 7 * w + 2) then ρ (646 + 7 * w + 3) else ρ (30 + i) := by
  unfold tk1
  rw [ud_ne (by omega), mkR_off (by omega)]
  by_cases ei : i = ρ (646 + 7 * w + 2)
  · rw [if_pos ei, ei, ud_at]
  · rw [if_neg ei, ud_ne (by omega)]
section ST2
variable {d n G : Nat} {mr : MR} {Q : V → MI → Nat → MR → Prop}
theorem u_takeBack (hL : Lay G mr) {e : Int} {mi : MI} {g : Nat} {ρ : Int → Int} (hg : g < G) {s : Int} (hR : Rep e mi g ρ) (hV : VC (clR ρ)) (hI : InvW ρ) (hwf : WfR ρ) (h8 : 0 ≤ ρ 8 ∧ ρ 8 ≤ 200) (hQ : ∀ mi', Cg (pSt g) mi mi' → Rep e mi' g (tkB s (ρ 8).toNat ρ) → Q (vX 0) mi' n mr) : Tx (d+2) mt_X1_takeBack [vR (some (g, 30)), vR (some (g, 15)), vI s] mi n mr Q := by
  have hok : okI G 30 g := hg
  have hok2 : okI G 15 g := Or.inl hg
  refine tx_intro (ls := [vR (some (g, 30)), vR (some (g, 15)), vI s, vX 0, vX 0]) om_X1_takeBack rfl (Nat.le_of_ble_eq_true rfl) ?_
  have loop : ∀ (w : Nat) (m : MI) (σ : Int → Int) (x4 : V), Cg (pSt g) mi m → Rep e m g σ → VC (clR σ) → InvW σ → WfR σ → σ 8 = w → w ≤ 200 → tkB s w σ = tkB s (ρ 8).toNat ρ → Run (d+2) mt_X1_takeBack Q (n, mr, 0, 0) m 7 [vR (some (g, 30)), vR (some (g, 15)), vI s, vI ((w : Int) - 1), x4] [] := by
    intro w
    induction w with
    | zero =>
      intro m σ x4 hC hr hv hi hf e8 h200 et
      refine s_iload_n (dc kc_X1_takeBack_0 5 rfl) rfl <| s_if_lt (tgt := 85) (dc kc_X1_takeBack_0 6 rfl) rfl (fun c8 => (s_return (dc kc_X1_takeBack_1 8 rfl) rfl (Nat.zero_le _) (Nat.zero_le _) ?_)) (fun c8 => (?_))
      · exact hQ m hC (by rw [← et]; exact hr)
      · exfalso; omega
    | succ w ih =>
      intro m σ x4 hC hr hv hi hf e8 h200 et
      obtain ⟨rW, rL, rN, rJ, rS, rH, rC⟩ := id hr
      obtain ⟨f0, f1, f2, fw⟩ := id rJ
      have hq := fw w (by omega) (by omega)
      have hc := hi.1 w (by omega) (by omega)
      have hPp : 0 ≤ plc m g w ∧ plc m g w < 200 := by unfold plc; omega
      have hin := tk1_Inv (w := w) hv hi (by omega) (by omega) (by omega)
      rw [show ((w + 1 : Nat) : Int) - 1 = w by omega]
      rw [tkB] at et
      refine s_iload_n (dc kc_X1_takeBack_0 5 rfl) rfl <| s_if_lt (tgt := 85) (dc kc_X1_takeBack_0 6 rfl) rfl (fun c8 => (?_)) (fun c8 => (r_aload_n (dc kc_X1_takeBack_0 7 rfl) rfl <| s_getA (dc kc_X1_takeBack_0 8 rfl) fl_X1_21 (ly_30_3 hL (by assumption)) <| r_aload_n (dc kc_X1_takeBack_0 9 rfl) rfl <| s_iload_n (dc kc_X1_takeBack_0 10 rfl) rfl <| c_v1r (dc kc_X1_takeBack_0 11 rfl) cl_X1_52 rfl (Nat.le_of_ble_eq_true rfl) (Nat.zero_le _) (Nat.zero_le _) <| u_placeOf (by first | omega | (simp [up] <;> omega)) (by first | omega | (simp [up] <;> omega)) (by first | omega | (simp [up] <;> omega)) (by first | omega | (simp [up] <;> omega)) <| s_iaload (dc kc_X1_takeBack_0 12 rfl) rfl (by first | omega | (simp [up] <;> omega)) (by first | omega | (simp [up] <;> omega)) <| s_iload_n (dc kc_X1_takeBack_0 13 rfl) rfl <| s_icmp_lt (tgt := 85) (dc kc_X1_takeBack_0 14 rfl) rfl (fun c22 => (?_)) (fun c22 => (?_))))
      · exfalso; omega
      · rw [show (m g 30 1 + (w : Int)) % 200 = plc m g w from rfl, hq.1] at c22
        refine s_return (dc kc_X1_takeBack_1 8 rfl) rfl (Nat.zero_le _) (Nat.zero_le _) ?_
        rw [if_neg (by omega)] at et
        exact hQ m hC (by rw [← et]; exact hr)
      · rw [show (m g 30 1 + (w : Int)) % 200 = plc m g w from rfl, hq.1] at c22
        rw [if_pos (by omega)] at et
        refine r_aload_n (dc kc_X1_takeBack_0 15 rfl) rfl <| s_iload_n (dc kc_X1_takeBack_0 16 rfl) rfl <| c_v1r (dc kc_X1_takeBack_0 17 rfl) cl_X1_52 rfl (Nat.le_of_ble_eq_true rfl) (Nat.zero_le _) (Nat.zero_le _) <| u_placeOf (by first | omega | (simp [up] <;> omega)) (by first | omega | (simp [up] <;> omega)) (by first | omega | (simp [up] <;> omega)) (by first | omega | (simp [up] <;> omega)) <| t_i4 (dc kc_X1_takeBack_0 18 rfl) (Nat.le_of_ble_eq_true rfl) rfl <| ?_
        rw [show (m g 30 1 + (w : Int)) % 200 = plc m g w from rfl]
        have c33 : m g 33 (plc m g w) = σ (646 + 7 * (w : Int) + 2) := hq.2.2.1
        generalize hPl : plc m g w = P at *
        have c33' : 0 ≤ m g 33 P ∧ m g 33 P < 24 := by rw [c33]; exact hc.1
        refine r_aload_n (dc kc_X1_takeBack_0 19 rfl) rfl <| s_getA (dc kc_X1_takeBack_0 20 rfl) fl_X1_56 (ly_15_0 hL (by assumption)) <| r_aload_n (dc kc_X1_takeBack_0 21 rfl) rfl <| s_getA (dc kc_X1_takeBack_0 22 rfl) fl_X1_28 (ly_30_5 hL (by assumption)) <| s_iload (dc kc_X1_takeBack_0 23 rfl) rfl <| s_iaload (dc kc_X1_takeBack_0 24 rfl) rfl (by first | omega | (simp [up] <;> omega)) (by first | omega | (simp [up] <;> omega)) <| r_aload_n (dc kc_X1_takeBack_0 25 rfl) rfl <| s_getA (dc kc_X1_takeBack_0 26 rfl) fl_X1_31 (ly_30_6 hL (by assumption)) <| s_iload (dc kc_X1_takeBack_0 27 rfl) rfl <| s_iaload (dc kc_X1_takeBack_0 28 rfl) rfl (by first | omega | (simp [up] <;> omega)) (by first | omega | (simp [up] <;> omega)) <| s_iastore (dc kc_X1_takeBack_0 29 rfl) rfl (by first | omega | (simp [up] <;> omega)) (by first | omega | (simp [up] <;> omega)) <| ?_
        have u33 : ∀ v, up m g 16 (m g 33 P) v g 33 P = m g 33 P := fun v => by rw [up_j (by decide)]
        have u35 : ∀ v, up m g 16 (m g 33 P) v g 35 P = σ (646 + 7 * (w : Int) + 4) := fun v => by rw [up_j (by decide)]; exact hq.2.2.2.2.1
        have hb01 : ∀ v, up m g 16 (m g 33 P) v g 35 P = 0 ∨ up m g 16 (m g 33 P) v g 35 P = 1 := fun v => by rw [u35]; exact hc.2.2.1
        have hb01' := hb01 (m g 34 P)
        have u33' : 0 ≤ up m g 16 (m g 33 P) (m g 34 P) g 33 P ∧ up m g 16 (m g 33 P) (m g 34 P) g 33 P < 24 := by rw [u33]; exact c33'
        refine r_aload_n (dc kc_X1_takeBack_0 30 rfl) rfl <| r_aload_n (dc kc_X1_takeBack_0 31 rfl) rfl <| s_getA (dc kc_X1_takeBack_0 32 rfl) fl_X1_28 (ly_30_5 hL (by assumption)) <| s_iload (dc kc_X1_takeBack_0 33 rfl) rfl <| s_iaload (dc kc_X1_takeBack_0 34 rfl) rfl (by first | omega | (simp [up] <;> omega)) (by first | omega | (simp [up] <;> omega)) <| r_aload_n (dc kc_X1_takeBack_0 35 rfl) rfl <| s_getA (dc kc_X1_takeBack_0 36 rfl) fl_X1_34 (ly_30_7 hL (by assumption)) <| s_iload (dc kc_X1_takeBack_0 37 rfl) rfl <| s_iaload (dc kc_X1_takeBack_0 38 rfl) rfl (by first | omega | (simp [up] <;> omega)) (by first | omega | (simp [up] <;> omega)) <| c_v2 (dc kc_X1_takeBack_0 39 rfl) cl_X1_64 rfl (Nat.le_of_ble_eq_true rfl) (Nat.zero_le _) (Nat.zero_le _) <| u_mark (by first | omega | (simp [up] <;> omega)) (by first | omega | (simp [up] <;> omega)) (by first | omega | assumption | (simp [up] <;> omega)) <| r_aload_n (dc kc_X1_takeBack_1 0 rfl) rfl <| s_dup (dc kc_X1_takeBack_1 1 rfl) rfl <| s_getI (dc kc_X1_takeBack_1 2 rfl) fl_X1_9 <| k_i (dc kc_X1_takeBack_1 3 rfl) rfl <| b_isub (dc kc_X1_takeBack_1 4 rfl) (by first | omega | (simp [up] <;> omega)) (by first | omega | (simp [up] <;> omega)) <| s_putI (dc kc_X1_takeBack_1 5 rfl) fl_X1_9 <| b_inc3 (dc kc_X1_takeBack_1 6 rfl) rfl (Nat.le_of_ble_eq_true rfl) rfl (by first | omega | (simp [up] <;> omega)) (by first | omega | (simp [up] <;> omega)) <| s_goto (tgt := 7) (dc kc_X1_takeBack_1 7 rfl) rfl <| ?_
        rw [u33, u35, c33, hq.2.2.2.1]
        have u15 : up m g 16 (σ (646 + 7 * (w : Int) + 2)) (σ (646 + 7 * (w : Int) + 3)) g 15 1 = σ 19 := by rw [up_j (by decide), rW.2]
        rw [u15]
        have u30 : ∀ a b c, up (up m g 16 a b) g 15 1 c g 30 0 = (w : Int) + 1 := fun a b c => by rw [up_j (by decide), up_j (by decide), f0, e8]; omega
        rw [u30, show (w : Int) + 1 - 1 = w by omega]
        have hof : ∀ k, k ≠ 8 → k ≠ 19 → (k < 30 ∨ 54 ≤ k) → tk1 σ w k = σ k := fun k a b c => tk1_off (by omega)
        have hhi : hiEq σ (tk1 σ w) := fun k hk => hof k (by omega) (by omega) (by omega)
        have e16 := hof 16 (by omega) (by omega) (by omega)
        have e17 := hof 17 (by omega) (by omega) (by omega)
        have kr : ∀ x a b, b ≠ 15 → b ≠ 16 → b ≠ 30 → up (up (up m g 16 (σ (646 + 7 * (w : Int) + 2)) (σ (646 + 7 * (w : Int) + 3))) g 15 1 x) g 30 0 (w : Int) a b = m a b := fun x a b z1 z2 z3 => by rw [up_j z3, up_j z1, up_j z2]
        have := ih (up (up (up m g 16 (σ (646 + 7 * (w : Int) + 2)) (σ (646 + 7 * (w : Int) + 3))) g 15 1 (if σ (646 + 7 * (w : Int) + 4) = 0 then bClr (σ 19) (σ (646 + 7 * (w : Int) + 2)) else bSet (σ 19) (σ (646 + 7 * (w : Int) + 2)))) g 30 0 (w : Int)) (tk1 σ w) (vI P) (((hC.up (by simp [pSt])).up (by simp [pSt])).up (by simp [pSt, pJ])) ⟨⟨fun i a b => ?_, ?_⟩, (rL.row hf.1 e16 hhi).mv (fun b z1 z2 => kr _ g b (by omega) (by omega) (by omega)), (rN.row hf.2 e17 hhi).mv (fun b z1 z2 => kr _ (g + 10) b (by omega) (by omega) (by omega)), ?_, (rS.row (fun k z1 z2 => hof k (by omega) (by omega) (by omega))).mv (kr _ g 37 (by decide) (by decide) (by decide)) (kr _ g 38 (by decide) (by decide) (by decide)), (rH.row (fun k hk => hof k (by omega) (by omega) (by omega))).mv (fun b z1 z2 => kr _ g b (by omega) (by omega) (by omega)), (rC.row (fun k hk => hof k (by omega) (by omega) (by omega))).mv (fun b z1 z2 => kr _ g b (by omega) (by omega) (by omega))⟩ hin.1 hin.2 ⟨fun l a b => by rw [e16] at b; exact (hf.1 l a b).hi hhi a, fun j a b => by rw [e17] at b; exact (hf.2 j a b).hi hhi a⟩ tk1_8 (by omega) et
        · rw [show (w : Int) + -1 = (w : Int) - 1 by omega]
          exact this
        · rw [up_j (by decide), up_j (by decide), up_ud, tk1_cl a]
          by_cases ei : i = σ (646 + 7 * (w : Int) + 2)
          · rw [if_pos ei, ei, ud_at]
          · rw [if_neg ei, ud_ne ei]; exact rW.1 i a b
        · rw [up_j (by decide), up_at]
          unfold tk1 mkR
          rw [ud_ne (by omega), ud_at, ud_ne (by omega)]
        · refine RepJ_tk1 (rJ.mv (fun b z1 z2 => by rw [up_j (by omega), up_j (by omega)])) (by omega) (by omega) hc.1
  have e0 : mi g 30 0 = ρ 8 := hR.2.2.2.1.1
  refine r_aload_n (dc kc_X1_takeBack_0 0 rfl) rfl <| s_getI (dc kc_X1_takeBack_0 1 rfl) fl_X1_9 <| k_i (dc kc_X1_takeBack_0 2 rfl) rfl <| b_isub (dc kc_X1_takeBack_0 3 rfl) (by first | omega | (simp [up] <;> omega)) (by first | omega | (simp [up] <;> omega)) <| t_i3 (dc kc_X1_takeBack_0 4 rfl) (Nat.le_of_ble_eq_true rfl) rfl <| ?_
  have := loop (ρ 8).toNat mi ρ (vX 0) Cg.rf hR hV hI hwf (by omega) (by omega) rfl
  rw [show ((ρ 8).toNat : Int) - 1 = mi g 30 0 - 1 by omega] at this
  exact this
theorem u_takeBackFrom (hL : Lay G mr) {e : Int} {mi : MI} {g : Nat} {ρ : Int → Int} (hg : g < G) {s : Int} (hR : Rep e mi g ρ) (hV : VC (clR ρ)) (hI : InvW ρ) (hwf : WfR ρ) (h8 : 0 ≤ ρ 8 ∧ ρ 8 ≤ 200) (hQ : ∀ mi', Cg (pSt g) mi mi' → Rep e mi' g (tkB s (ρ 8).toNat ρ) → Q (vX 0) mi' n mr) : Tx (d+3) mt_X7_takeBackFrom [vR (some (g, 5)), vI s] mi n mr Q := by
  have hok : okI G 5 g := hg
  refine tx_intro (ls := [vR (some (g, 5)), vI s]) om_X7_takeBackFrom rfl (Nat.le_of_ble_eq_true rfl) ?_
  refine r_aload_n (dc kc_X7_takeBackFrom 0 rfl) rfl <| s_getO (dc kc_X7_takeBackFrom 1 rfl) fl_X7_31 (ly_5_3 hL (by assumption)) <| r_aload_n (dc kc_X7_takeBackFrom 2 rfl) rfl <| s_getO (dc kc_X7_takeBackFrom 3 rfl) fl_X7_12 (ly_5_0 hL (by assumption)) <| s_iload_n (dc kc_X7_takeBackFrom 4 rfl) rfl <| c_v2 (dc kc_X7_takeBackFrom 5 rfl) cl_X7_114 rfl (Nat.le_of_ble_eq_true rfl) (Nat.zero_le _) (Nat.zero_le _) ?_
  refine u_takeBack hL hg hR hV hI hwf h8 (fun m1 g1 r1 => ?_)
  refine s_return (dc kc_X7_takeBackFrom 6 rfl) rfl (Nat.zero_le _) (Nat.zero_le _) ?_
  exact hQ m1 g1 r1
theorem u_payOut (hL : Lay G mr) {mi : MI} {g : Nat} (hg : g < G) {v : Int} (h0 : 0 ≤ mi g 6 3) (hQ : Q (vX 0) (up (if mi g 6 3 < 100 then up mi g 7 (mi g 6 3) v else mi) g 6 3 (w32 (mi g 6 3 + 1))) n mr) : Tx (d+1) mt_X7_payOut [vR (some (g, 5)), vI v] mi n mr Q := by
  have hok : okI G 5 g := hg
  refine tx_intro (ls := [vR (some (g, 5)), vI v]) om_X7_payOut rfl (Nat.le_of_ble_eq_true rfl) ?_
  refine r_aload_n (dc kc_X7_payOut 0 rfl) rfl <| s_getA (dc kc_X7_payOut 1 rfl) fl_X7_42 (ly_5_5 hL (by assumption)) <| k_i (dc kc_X7_payOut 2 rfl) rfl <| s_iaload (dc kc_X7_payOut 3 rfl) rfl (by first | omega | (simp [up] <;> omega)) (by first | omega | (simp [up] <;> omega)) <| k_b (dc kc_X7_payOut 4 rfl) rfl <| s_icmp_ge (tgt := 23) (dc kc_X7_payOut 5 rfl) rfl (fun c8 => (r_aload_n (dc kc_X7_payOut 14 rfl) rfl <| s_getA (dc kc_X7_payOut 15 rfl) fl_X7_42 (ly_5_5 hL (by assumption)) <| k_i (dc kc_X7_payOut 16 rfl) rfl <| s_dup2 (dc kc_X7_payOut 17 rfl) rfl rfl <| s_iaload (dc kc_X7_payOut 18 rfl) rfl (by first | omega | (simp [up] <;> omega)) (by first | omega | (simp [up] <;> omega)) <| k_i (dc kc_X7_payOut 19 rfl) rfl <| s_iadd (dc kc_X7_payOut 20 rfl) <| s_iastore (dc kc_X7_payOut 21 rfl) rfl (by first | omega | (simp [up] <;> omega)) (by first | omega | (simp [up] <;> omega)) <| s_return (dc kc_X7_payOut 22 rfl) rfl (Nat.zero_le _) (Nat.zero_le _) ?_)) (fun c8 => (r_aload_n (dc kc_X7_payOut 6 rfl) rfl <| s_getA (dc kc_X7_payOut 7 rfl) fl_X7_46 (ly_5_6 hL (by assumption)) <| r_aload_n (dc kc_X7_payOut 8 rfl) rfl <| s_getA (dc kc_X7_payOut 9 rfl) fl_X7_42 (ly_5_5 hL (by assumption)) <| k_i (dc kc_X7_payOut 10 rfl) rfl <| s_iaload (dc kc_X7_payOut 11 rfl) rfl (by first | omega | (simp [up] <;> omega)) (by first | omega | (simp [up] <;> omega)) <| s_iload_n (dc kc_X7_payOut 12 rfl) rfl <| s_iastore (dc kc_X7_payOut 13 rfl) rfl (by first | omega | (simp [up] <;> omega)) (by first | omega | (simp [up] <;> omega)) <| r_aload_n (dc kc_X7_payOut 14 rfl) rfl <| s_getA (dc kc_X7_payOut 15 rfl) fl_X7_42 (ly_5_5 hL (by assumption)) <| k_i (dc kc_X7_payOut 16 rfl) rfl <| s_dup2 (dc kc_X7_payOut 17 rfl) rfl rfl <| s_iaload (dc kc_X7_payOut 18 rfl) rfl (by first | omega | (simp [up] <;> omega)) (by first | omega | (simp [up] <;> omega)) <| k_i (dc kc_X7_payOut 19 rfl) rfl <| s_iadd (dc kc_X7_payOut 20 rfl) <| s_iastore (dc kc_X7_payOut 21 rfl) rfl (by first | omega | (simp [up] <;> omega)) (by first | omega | (simp [up] <;> omega)) <| s_return (dc kc_X7_payOut 22 rfl) rfl (Nat.zero_le _) (Nat.zero_le _) ?_))
  · rw [if_neg (by omega)] at hQ; exact hQ
  · rw [if_pos (by omega)] at hQ
    rw [up_j (show (6 : Nat) ≠ 7 by decide)]
    exact hQ
end ST2
/-- what comes of a line, as the row has it -/
theorem Rep_stp4 {B : Int} {mi : MI} {g : Nat} {ρ : Int → Int} (hI : Inv B ρ) (h17 : 0 < ρ 17) (rW : RepW mi g (stp1 ρ)) (rL : RepL mi g ρ) (rN : RepN mi g ρ) (rJ : RepJ mi g (stp1 ρ)) (rS : ∀ s, 0 ≤ s → s < 200 → mi g 37 s = (if s = ρ 0 % 200 then ρ 7 else ρ (246 + 2 * s)) ∧ mi g 38 s = (if s = ρ 0 % 200 then bi (rcS ρ = 2) else ρ (246 + 2 * s + 1))) (rH : RepH mi g ρ) (h0 : mi g 6 0 = ρ 0) (h1 : mi g 6 1 = w32 (ρ 1 + bi (rcS ρ = 1))) (h2 : mi g 6 2 = w32 (ρ 2 + bi (rcS ρ = 2))) (h3 : mi g 6 3 = stp3 ρ 3) (h4 : mi g 6 4 = stp3 ρ 4) (h56 : ∀ k, 5 ≤ k → k ≤ 6 → mi g 6 k = ρ k) (hout : ∀ i, 0 ≤ i → i < 100 → mi g 7 i = stp3 ρ (146 + i)) (r8 : ∀ i, 0 ≤ i → i < 24 → mi g 8 i = ρ (54 + i)) (r9 : ∀ i, 0 ≤ i → i < 5 → mi g 9 i = ρ (102 + i)) (r10 : ∀ i, 0 ≤ i → i < 24 → mi g 10 i = ρ (78 + i)) (r5 : mi g 5 10 = ρ 14 ∧ mi g 5 11 = ρ 15 ∧ mi g 5 12 = ρ 9 ∧ mi g 5 13 = ρ 10) : Rep 7 mi g (stp4 ρ) := by
  obtain ⟨hI0, hW, hC, _⟩ := hI
  have g1 := stp1_InvW hI0 hW h17
  have hlw := hI0.2.2.2.2.2.2.2.2.1
  have hln := hI0.2.2.2.2.2.2.2.2.2
  have hw := hln _ hI0.2.2.1.1 (hI0.2.2.1.2 h17)
  have h00 := hI0.2.1
  have e1 : ∀ k, k ≠ 8 ∧ k ≠ 20 ∧ k ≠ 19 ∧ (k < 30 ∨ 54 ≤ k ∧ k < 646 ∨ 2046 ≤ k) → stp1 ρ k = ρ k := fun k hk => lnR_off hI0.1 hw hI0.2.2.2.1.1 hI0.2.2.2.1.2 hk
  have e4 : ∀ k, k ≠ 1 ∧ k ≠ 2 ∧ k ≠ 3 ∧ k ≠ 4 ∧ k ≠ 7 ∧ k ≠ 18 ∧ (k < 146 ∨ 646 ≤ k) → stp4 ρ k = stp1 ρ k := fun k hk => by rw [stp4_low (by omega)]; exact stp3_cl2 hI0 h17 (by omega)
  have ef : ∀ k, k ≠ 1 ∧ k ≠ 2 ∧ k ≠ 3 ∧ k ≠ 4 ∧ k ≠ 7 ∧ k ≠ 18 ∧ (k < 146 ∨ 646 ≤ k) → k ≠ 8 ∧ k ≠ 20 ∧ k ≠ 19 ∧ (k < 30 ∨ 54 ≤ k ∧ k < 646 ∨ 2046 ≤ k) → stp4 ρ k = ρ k := fun k a b => by rw [e4 k a, e1 k b]
  have hhi : hiEq ρ (stp4 ρ) := fun k hk => ef k (by omega) (by omega)
  have e18 := stp2_off hI0 h17 (k := 18) (by omega)
  have h18 := hI0.2.2.2.2.2.2.2.1
  have k12 : stp4 ρ 1 = w32 (ρ 1 + bi (rcS ρ = 1)) ∧ stp4 ρ 2 = w32 (ρ 2 + bi (rcS ρ = 2)) := by
    have s1 : stp2 ρ 1 = w32 (ρ 1 + bi (rcS ρ = 1)) := by
      unfold stp2
      rw [inc_off (by omega)]
      show ud _ 1 _ 1 = _
      rw [ud_at, ud_ne (by omega), e1 1 (by omega)]
    have s2 : stp2 ρ 2 = w32 (ρ 2 + bi (rcS ρ = 2)) := by
      unfold stp2
      show ud _ 2 _ 2 = _
      rw [ud_at, inc_off (by omega), ud_ne (by omega), e1 2 (by omega)]
    have key : ∀ k, 1 ≤ k → k ≤ 2 → stp3 ρ k = stp2 ρ k := fun k a b => by
      unfold stp3
      split
      · unfold payR payB
        split
        · rw [inc_off (by omega), ud_ne (by omega), inc_off (by omega), inc_off (by omega)]
        · rw [inc_off (by omega), inc_off (by omega)]
      · rfl
    rw [stp4_low (by omega), stp4_low (by omega), key 1 (by omega) (by omega), key 2 (by omega) (by omega)]
    exact ⟨s1, s2⟩
  refine ⟨rW.row (fun k hk => e4 k (by omega)), rL.row hlw (ef 16 (by omega) (by omega)) hhi, rN.row hln (ef 17 (by omega) (by omega)) hhi, rJ.row g1.2.2.2.1.2 (fun k hk => e4 k (by omega)), fun s a b => ?_, rH.row (fun k hk => ef k (by omega) (by omega)), fun k a b c => ?_, fun i a b => ?_, fun i a b => by rw [ef _ (by omega) (by omega)]; exact r8 i a b, fun i a b => by rw [ef _ (by omega) (by omega)]; exact r9 i a b, fun i a b => by rw [ef _ (by omega) (by omega)]; exact r10 i a b, by rw [ef _ (by omega) (by omega)]; exact r5.1, by rw [ef _ (by omega) (by omega)]; exact r5.2.1, by rw [ef _ (by omega) (by omega)]; exact r5.2.2.1, by rw [ef _ (by omega) (by omega)]; exact r5.2.2.2⟩
  · have := rS s a b
    have e3 : ∀ k, 246 ≤ k → k < 646 → stp3 ρ k = ρ k := fun k a b => by rw [stp3_cl2 hI0 h17 (by omega)]; exact e1 k (by omega)
    unfold stp4
    by_cases es : s = ρ 0 % 200
    · rw [if_pos es, if_pos es] at this
      rw [← es, ud_ne (by omega), ud_at, ud_at]
      exact this
    · rw [if_neg es, if_neg es] at this
      rw [ud_ne (by omega), ud_ne (by omega), ud_ne (by omega), ud_ne (by omega), e3 _ (by omega) (by omega), e3 _ (by omega) (by omega)]
      exact this
  · have hk : k = 0 ∨ k = 1 ∨ k = 2 ∨ k = 3 ∨ k = 4 ∨ k = 5 ∨ k = 6 := by omega
    rcases hk with rfl | rfl | rfl | rfl | rfl | rfl | rfl
    · rw [ef 0 (by omega) (by omega)]; exact h0
    · rw [k12.1]; exact h1
    · rw [k12.2]; exact h2
    · rw [stp4_low (by omega)]; exact h3
    · rw [stp4_low (by omega)]; exact h4
    · rw [ef 5 (by omega) (by omega)]; exact h56 5 (by omega) (by omega)
    · rw [ef 6 (by omega) (by omega)]; exact h56 6 (by omega) (by omega)
  · rw [stp4_low (by omega)]; exact hout i a b
