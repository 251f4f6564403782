/-! the class: settings -/
theorem Rep.set {mi mi' : MI} {g : Nat} {ρ ρ' : Int → Int} (h : Rep (-1) mi g ρ) (hwf : WfR ρ) (h200 : ρ 8 ≤ 200) (hr : ∀ k, ¬ (9 ≤ k ∧ k ≤ 15) → ¬ (78 ≤ k ∧ k < 107) → ρ' k = ρ k) (hm : ∀ a b, rlS g a b = true → b ≠ 5 → b ≠ 9 → b ≠ 10 → b ≠ 40 → mi' a b = mi a b) (n9 : ∀ i, 0 ≤ i → i < 5 → mi' g 9 i = ρ' (102 + i)) (n10 : ∀ i, 0 ≤ i → i < 24 → mi' g 10 i = ρ' (78 + i)) (n5 : mi' g 5 10 = ρ' 14 ∧ mi' g 5 11 = ρ' 15 ∧ mi' g 5 12 = ρ' 9 ∧ mi' g 5 13 = ρ' 10) (n40 : mi' g 40 0 = ρ' 11 ∧ mi' g 40 1 = ρ' 12 ∧ (ρ' 12 ≠ -1 → mi' g 40 2 = ρ' 13) ∧ (ρ' 12 = -1 → mi' g 40 2 = -1)) : Rep (-1) mi' g ρ' := by
  obtain ⟨rW, rL, rN, rJ, rS, rH, rC⟩ := h
  have q : ∀ b, rlS g g b = true → b ≠ 5 → b ≠ 9 → b ≠ 10 → b ≠ 40 → mi' g b = mi g b := fun b z => hm g b z
  have q10 : ∀ b, 20 ≤ b → b ≤ 27 → mi' (g + 10) b = mi (g + 10) b := fun b z1 z2 => hm (g + 10) b (by simp [rlS, z1, z2]) (by omega) (by omega) (by omega) (by omega)
  have hh : hiEq ρ ρ' := fun k hk => hr k (by omega) (by omega)
  refine ⟨(rW.row (fun k hk => hr k (by omega) (by omega))).mv (q 16 (by simp [rlS]) (by decide) (by decide) (by decide) (by decide)) (by rw [q 15 (by simp [rlS]) (by decide) (by decide) (by decide) (by decide)]), (rL.row hwf.1 (hr 16 (by omega) (by omega)) hh).mv (fun b z1 z2 => q b (by simp [rlS]; omega) (by omega) (by omega) (by omega) (by omega)), (rN.row hwf.2 (hr 17 (by omega) (by omega)) hh).mv q10, (rJ.row h200 (fun k hk => hr k (by omega) (by omega))).mv (fun b z1 z2 => q b (by simp [rlS]; omega) (by omega) (by omega) (by omega) (by omega)), (rS.row (fun k z1 z2 => hr k (by omega) (by omega))).mv (q 37 (by simp [rlS]) (by decide) (by decide) (by decide) (by decide)) (q 38 (by simp [rlS]) (by decide) (by decide) (by decide) (by decide)), ⟨n40.1, n40.2.1, n40.2.2.1, n40.2.2.2, fun l a b => ?_⟩, ⟨fun k a b c => ?_, fun i a b => ?_, fun i a b => ?_, n9, n10, n5⟩⟩
  · rw [q 41 (by simp [rlS]) (by decide) (by decide) (by decide) (by decide), q 42 (by simp [rlS]) (by decide) (by decide) (by decide) (by decide), q 43 (by simp [rlS]) (by decide) (by decide) (by decide) (by decide), hr _ (by omega) (by omega), hr _ (by omega) (by omega), hr _ (by omega) (by omega)]
    exact rH.2.2.2.2 l a b
  · rw [q 6 (by simp [rlS]) (by decide) (by decide) (by decide) (by decide), hr k (by omega) (by omega)]; exact rC.1 k a b c
  · rw [q 7 (by simp [rlS]) (by decide) (by decide) (by decide) (by decide), hr _ (by omega) (by omega)]; exact rC.2.1 i a b
  · rw [q 8 (by simp [rlS]) (by decide) (by decide) (by decide) (by decide), hr _ (by omega) (by omega)]; exact rC.2.2.1 i a b
section PB4
variable {d n G : Nat} {mr : MR} {Q : V → MI → Nat → MR → Prop}
theorem u_cstatus {mi : MI} (hQ : Q (vI (mi 0 0 3)) mi n mr) : Tx (d+1) mt_X11_status [vR (some (0, 0))] mi n mr Q := by
  refine tx_intro (ls := [vR (some (0, 0))]) om_X11_status rfl (Nat.le_of_ble_eq_true rfl) ?_
  refine r_aload_n (dc kc_X11_status 0 rfl) rfl <| s_getI (dc kc_X11_status 1 rfl) fl_X11_20 <| s_ireturn (dc kc_X11_status 2 rfl) rfl (Nat.zero_le _) (Nat.zero_le _) ?_
  exact hQ
theorem u_cfault {mi : MI} (hQ : Q (vI (mi 0 0 2)) mi n mr) : Tx (d+1) mt_X11_fault [vR (some (0, 0))] mi n mr Q := by
  refine tx_intro (ls := [vR (some (0, 0))]) om_X11_fault rfl (Nat.le_of_ble_eq_true rfl) ?_
  refine r_aload_n (dc kc_X11_fault 0 rfl) rfl <| s_getI (dc kc_X11_fault 1 rfl) fl_X11_17 <| s_ireturn (dc kc_X11_fault 2 rfl) rfl (Nat.zero_le _) (Nat.zero_le _) ?_
  exact hQ
theorem u_clots (hL : Lay G mr) {mi : MI} {g : Nat} {ρ : Int → Int} {B a b : Int} (hnow : mr 0 0 4 = some (g, 5)) (hg : g < G) (hR : Rep (-1) mi g ρ) (hI : Inv B ρ) (hQ1 : ¬ ((0 ≤ a ∧ a ≤ 1000) ∧ (0 ≤ b ∧ b ≤ 1000000)) → Q (vI (-1)) (up mi 0 0 3 (-1)) n mr) (hQ2 : 0 ≤ a → a ≤ 1000 → 0 ≤ b → b ≤ 1000000 → ∀ mi', Cg (fun x j k => (x == g && j == 5) || (x == 0 && j == 0 && k == 3)) mi mi' → mi' 0 0 3 = 0 → Rep (-1) mi' g (ud (ud ρ 9 a) 10 b) → Q (vI 0) mi' n mr) : Tx (d+2) mt_X11_lots [vR (some (0, 0)), vI a, vI b] mi n mr Q := by
  have hok : okI G 5 g := hg
  obtain ⟨rW, rL, rN, rJ, rS, rH, rC⟩ := id hR
  refine tx_intro (ls := [vR (some (0, 0)), vI a, vI b]) om_X11_lots rfl (Nat.le_of_ble_eq_true rfl) ?_
  refine s_iload_n (dc kc_X11_lots 0 rfl) rfl <| s_if_lt (tgt := 21) (dc kc_X11_lots 1 rfl) rfl (fun c1 => (r_aload_n (dc kc_X11_lots 10 rfl) rfl <| k_i (dc kc_X11_lots 11 rfl) rfl <| c_v1r (dc kc_X11_lots 12 rfl) cl_X11_80 rfl (Nat.le_of_ble_eq_true rfl) (Nat.zero_le _) (Nat.zero_le _) <| u_refuse <| s_ireturn (dc kc_X11_lots 13 rfl) rfl (Nat.zero_le _) (Nat.zero_le _) ?_)) (fun c1 => (s_iload_n (dc kc_X11_lots 2 rfl) rfl <| k_s (dc kc_X11_lots 3 rfl) rfl <| s_icmp_gt (tgt := 21) (dc kc_X11_lots 4 rfl) rfl (fun c8 => (r_aload_n (dc kc_X11_lots 10 rfl) rfl <| k_i (dc kc_X11_lots 11 rfl) rfl <| c_v1r (dc kc_X11_lots 12 rfl) cl_X11_80 rfl (Nat.le_of_ble_eq_true rfl) (Nat.zero_le _) (Nat.zero_le _) <| u_refuse <| s_ireturn (dc kc_X11_lots 13 rfl) rfl (Nat.zero_le _) (Nat.zero_le _) ?_)) (fun c8 => (s_iload_n (dc kc_X11_lots 5 rfl) rfl <| s_if_lt (tgt := 21) (dc kc_X11_lots 6 rfl) rfl (fun c12 => (r_aload_n (dc kc_X11_lots 10 rfl) rfl <| k_i (dc kc_X11_lots 11 rfl) rfl <| c_v1r (dc kc_X11_lots 12 rfl) cl_X11_80 rfl (Nat.le_of_ble_eq_true rfl) (Nat.zero_le _) (Nat.zero_le _) <| u_refuse <| s_ireturn (dc kc_X11_lots 13 rfl) rfl (Nat.zero_le _) (Nat.zero_le _) ?_)) (fun c12 => (s_iload_n (dc kc_X11_lots 7 rfl) rfl <| k_c (dc kc_X11_lots 8 rfl) ki_X11_193 rfl (a := 1000000) (by decide) <| s_icmp_le (tgt := 27) (dc kc_X11_lots 9 rfl) rfl (fun c18 => (r_aload_n (dc kc_X11_lots 14 rfl) rfl <| s_getO (dc kc_X11_lots 15 rfl) fl_X11_26 hnow <| s_iload_n (dc kc_X11_lots 16 rfl) rfl <| s_putI (dc kc_X11_lots 17 rfl) fl_X11_194 <| r_aload_n (dc kc_X11_lots 18 rfl) rfl <| s_getO (dc kc_X11_lots 19 rfl) fl_X11_26 hnow <| s_iload_n (dc kc_X11_lots 20 rfl) rfl <| s_putI (dc kc_X11_lots 21 rfl) fl_X11_197 <| r_aload_n (dc kc_X11_lots 22 rfl) rfl <| k_i (dc kc_X11_lots 23 rfl) rfl <| c_v1r (dc kc_X11_lots 24 rfl) cl_X11_112 rfl (Nat.le_of_ble_eq_true rfl) (Nat.zero_le _) (Nat.zero_le _) <| u_answer <| s_ireturn (dc kc_X11_lots 25 rfl) rfl (Nat.zero_le _) (Nat.zero_le _) ?_)) (fun c18 => (r_aload_n (dc kc_X11_lots 10 rfl) rfl <| k_i (dc kc_X11_lots 11 rfl) rfl <| c_v1r (dc kc_X11_lots 12 rfl) cl_X11_80 rfl (Nat.le_of_ble_eq_true rfl) (Nat.zero_le _) (Nat.zero_le _) <| u_refuse <| s_ireturn (dc kc_X11_lots 13 rfl) rfl (Nat.zero_le _) (Nat.zero_le _) ?_))))))))
  · exact hQ1 (by omega)
  · exact hQ1 (by omega)
  · exact hQ1 (by omega)
  · refine hQ2 (by omega) (by omega) (by omega) (by omega) _ (((Cg.rf.up (by simp)).up (by simp)).up (by simp)) up_at (hR.set hI.wf hI.1.2.2.2.1.2 (fun k h1 h2 => by rw [ud_ne (by omega), ud_ne (by omega)]) (fun x j z h5 _ _ _ => ?_) (fun i h1 h2 => ?_) (fun i h1 h2 => ?_) ?_ ?_)
    · have : j ≠ 0 := by simp [rlS] at z; omega
      rw [up_j this, up_j h5, up_j h5]
    · rw [up_j (by decide), up_j (by decide), up_j (by decide), ud_ne (by omega), ud_ne (by omega)]; exact rC.2.2.2.1 i h1 h2
    · rw [up_j (by decide), up_j (by decide), up_j (by decide), ud_ne (by omega), ud_ne (by omega)]; exact rC.2.2.2.2.1 i h1 h2
    · rw [up_j (by decide), up_k (by decide), up_k (by decide), up_k (by decide), up_k (by decide), up_k (by decide), up_at, up_at, ud_ne (by decide), ud_ne (by decide), ud_ne (by decide), ud_ne (by decide), ud_ne (by decide), ud_at, ud_at]
      exact ⟨rC.2.2.2.2.2.1, rC.2.2.2.2.2.2.1, rfl, rfl⟩
    · rw [up_j (by decide), up_j (by decide), up_j (by decide), ud_ne (by decide), ud_ne (by decide), ud_ne (by decide), ud_ne (by decide), ud_ne (by decide), ud_ne (by decide)]
      exact ⟨rH.1, rH.2.1, rH.2.2.1, rH.2.2.2.1⟩
  · exact hQ1 (by omega)
end PB4
