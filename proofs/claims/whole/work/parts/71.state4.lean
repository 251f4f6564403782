/-! the class: lots and the watch -/
/-- one count changed -/
theorem Rep.cnt {e : Int} {mi : MI} {g : Nat} {ρ : Int → Int} {k v : Int} (hwf : WfR ρ) (h200 : ρ 8 ≤ 200) (h : Rep e mi g ρ) (h0 : 0 ≤ k) (h1 : k < 8) : Rep e (up mi g 6 k v) g (ud ρ k v) := by
  obtain ⟨rW, rL, rN, rJ, rS, rH, rC⟩ := h
  have hu : ∀ i, i ≠ k → ud ρ k v i = ρ i := fun i z => ud_ne z
  obtain ⟨a1, a2, a3, a4, a5, a6, a7, a8, a9⟩ := rC
  refine ⟨(rW.row (fun i hi => hu i (by omega))).mv (up_j (by decide)) (by rw [up_j (by decide)]), (rL.row hwf.1 (hu 16 (by omega)) (fun i hi => hu i (by omega))).mv (fun b z1 z2 => up_j (by omega)), (rN.row hwf.2 (hu 17 (by omega)) (fun i hi => hu i (by omega))).mv (fun b z1 z2 => up_j (by omega)), (rJ.row h200 (fun i hi => hu i (by omega))).mv (fun b z1 z2 => up_j (by omega)), (rS.row (fun i z1 z2 => hu i (by omega))).mv (up_j (by decide)) (up_j (by decide)), (rH.row (fun i hi => hu i (by omega))).mv (fun b z1 z2 => up_j (by omega)), fun i a b c => ?_, fun i a b => by rw [up_j (by decide), hu _ (by omega)]; exact a2 i a b, fun i a b => by rw [up_j (by decide), hu _ (by omega)]; exact a3 i a b, fun i a b => by rw [up_j (by decide), hu _ (by omega)]; exact a4 i a b, fun i a b => by rw [up_j (by decide), hu _ (by omega)]; exact a5 i a b, by rw [up_j (by decide), hu _ (by omega)]; exact a6, by rw [up_j (by decide), hu _ (by omega)]; exact a7, by rw [up_j (by decide), hu _ (by omega)]; exact a8, by rw [up_j (by decide), hu _ (by omega)]; exact a9⟩
  rw [up_ud]
  by_cases ei : i = k
  · rw [ei, ud_at, ud_at]
  · rw [ud_ne ei, ud_ne ei]; exact a1 i a b c
theorem Rep.lot {e : Int} {mi : MI} {g : Nat} {ρ : Int → Int} {v : Int} (hwf : WfR ρ) (h200 : ρ 8 ≤ 200) (h : Rep e mi g ρ) : Rep e (up mi g 5 13 v) g (ud ρ 10 v) := by
  obtain ⟨rW, rL, rN, rJ, rS, rH, rC⟩ := h
  have hu : ∀ i, i ≠ 10 → ud ρ 10 v i = ρ i := fun i z => ud_ne z
  obtain ⟨a1, a2, a3, a4, a5, a6, a7, a8, a9⟩ := rC
  exact ⟨(rW.row (fun i hi => hu i (by omega))).mv (up_j (by decide)) (by rw [up_j (by decide)]), (rL.row hwf.1 (hu 16 (by omega)) (fun i hi => hu i (by omega))).mv (fun b z1 z2 => up_j (by omega)), (rN.row hwf.2 (hu 17 (by omega)) (fun i hi => hu i (by omega))).mv (fun b z1 z2 => up_j (by omega)), (rJ.row h200 (fun i hi => hu i (by omega))).mv (fun b z1 z2 => up_j (by omega)), (rS.row (fun i z1 z2 => hu i (by omega))).mv (up_j (by decide)) (up_j (by decide)), (rH.row (fun i hi => hu i (by omega))).mv (fun b z1 z2 => up_j (by omega)), fun i a b c => by rw [up_j (by decide), hu _ (by omega)]; exact a1 i a b c, fun i a b => by rw [up_j (by decide), hu _ (by omega)]; exact a2 i a b, fun i a b => by rw [up_j (by decide), hu _ (by omega)]; exact a3 i a b, fun i a b => by rw [up_j (by decide), hu _ (by omega)]; exact a4 i a b, fun i a b => by rw [up_j (by decide), hu _ (by omega)]; exact a5 i a b, by rw [up_k (by decide), hu _ (by omega)]; exact a6, by rw [up_k (by decide), hu _ (by omega)]; exact a7, by rw [up_k (by decide), hu _ (by omega)]; exact a8, by rw [up_at, ud_at]⟩
theorem WfR.hi {ρ ρ' : Int → Int} (h : WfR ρ) (h16 : ρ' 16 = ρ 16) (h17 : ρ' 17 = ρ 17) (hh : hiEq ρ ρ') : WfR ρ' := ⟨fun l a b => by rw [h16] at b; exact (h.1 l a b).hi hh a, fun j a b => by rw [h17] at b; exact (h.2 j a b).hi hh a⟩
def pLt (g a b : Nat) (k : Int) : Bool := pSt g a b k || (a == g && ((b == 5 && k == 13) || (b == 6 && k == 5)))
section ST4
variable {d n G : Nat} {mr : MR} {Q : V → MI → Nat → MR → Prop}
theorem u_draw (hL : Lay G mr) {mi : MI} {g : Nat} {x : Int} (h0 : 0 ≤ mi g 5 13) (h1 : mi g 5 13 < 1000003) (hx : 0 < x) (hQ : Q (vI ((mi g 5 13 * 1103 + 12345) % 1000003 % x)) (up mi g 5 13 ((mi g 5 13 * 1103 + 12345) % 1000003)) n mr) : Tx (d+1) mt_X7_draw [vR (some (g, 5)), vI x] mi n mr Q := by
  refine tx_intro (ls := [vR (some (g, 5)), vI x]) om_X7_draw rfl (Nat.le_of_ble_eq_true rfl) ?_
  refine r_aload_n (dc kc_X7_draw 0 rfl) rfl <| r_aload_n (dc kc_X7_draw 1 rfl) rfl <| s_getI (dc kc_X7_draw 2 rfl) fl_X7_69 <| k_s (dc kc_X7_draw 3 rfl) rfl <| b_imul (dc kc_X7_draw 4 rfl) (by first | omega | (simp [up] <;> omega)) (by first | omega | (simp [up] <;> omega)) <| k_s (dc kc_X7_draw 5 rfl) rfl <| b_iadd (dc kc_X7_draw 6 rfl) (by first | omega | (simp [up] <;> omega)) (by first | omega | (simp [up] <;> omega)) <| k_c (dc kc_X7_draw 7 rfl) ki_X7_153 rfl (a := 1000003) (by decide) <| b_irem (dc kc_X7_draw 8 rfl) (by first | omega | (simp [up] <;> omega)) (by first | omega | (simp [up] <;> omega)) <| s_putI (dc kc_X7_draw 9 rfl) fl_X7_69 <| ?_
  have e : up mi g 5 13 ((mi g 5 13 * 1103 + 12345) % 1000003) g 5 13 = (mi g 5 13 * 1103 + 12345) % 1000003 := up_at
  have hb : 0 ≤ up mi g 5 13 ((mi g 5 13 * 1103 + 12345) % 1000003) g 5 13 := by rw [e]; omega
  refine s_iload_n (dc kc_X7_draw 10 rfl) rfl <| s_if_le (tgt := 32) (dc kc_X7_draw 11 rfl) rfl (fun c20 => (k_i (dc kc_X7_draw 17 rfl) rfl <| s_ireturn (dc kc_X7_draw 18 rfl) rfl (Nat.zero_le _) (Nat.zero_le _) ?_)) (fun c20 => (r_aload_n (dc kc_X7_draw 12 rfl) rfl <| s_getI (dc kc_X7_draw 13 rfl) fl_X7_69 <| s_iload_n (dc kc_X7_draw 14 rfl) rfl <| b_irem (dc kc_X7_draw 15 rfl) (by first | omega | (simp [up] <;> omega)) (by first | omega | (simp [up] <;> omega)) <| s_goto (tgt := 33) (dc kc_X7_draw 16 rfl) rfl <| s_ireturn (dc kc_X7_draw 18 rfl) rfl (Nat.zero_le _) (Nat.zero_le _) ?_))
  · exfalso; omega
  · rw [e]; exact hQ
theorem u_flipByLots (hL : Lay G mr) {e : Int} {mi : MI} {g : Nat} {ρ : Int → Int} (hg : g < G) {s : Int} (hs : s = ρ 0) (he : e ≠ 5) (hR : Rep e mi g ρ) (hI : InvW ρ) (hV : VC (clR ρ)) (hwf : WfR ρ) (h8 : 0 ≤ ρ 8 ∧ ρ 8 ≤ 200) (h00 : 0 ≤ ρ 0) (hx : rg (ρ 19)) (h10 : 0 ≤ ρ 10 ∧ ρ 10 < 1000003) (hQ : ∀ mi', Cg (pLt g) mi mi' → Rep e mi' g (lotR ρ) → Q (vX 0) mi' n mr) : Tx (d+5) mt_X7_flipByLots [vR (some (g, 5)), vI s] mi n mr Q := by
  have hok : okI G 5 g := hg
  refine tx_intro (ls := [vR (some (g, 5)), vI s, vX 0, vX 0]) om_X7_flipByLots rfl (Nat.le_of_ble_eq_true rfl) ?_
  have e12 : mi g 5 12 = ρ 9 := hR.2.2.2.2.2.2.2.2.2.2.2.2.2.1
  have e13 : mi g 5 13 = ρ 10 := hR.2.2.2.2.2.2.2.2.2.2.2.2.2.2
  have dr : ∀ (m : MI) (σ : Int → Int), Rep e m g σ → WfR σ → σ 8 ≤ 200 → Rep e (up m g 5 13 ((m g 5 13 * 1103 + 12345) % 1000003)) g (drw σ) ∧ (m g 5 13 * 1103 + 12345) % 1000003 = drw σ 10 ∧ WfR (drw σ) := by
    intro m σ hr hw h2
    have e13 : m g 5 13 = σ 10 := hr.2.2.2.2.2.2.2.2.2.2.2.2.2.2
    have ed : drw σ = ud σ 10 ((m g 5 13 * 1103 + 12345) % 1000003) := by unfold drw; rw [e13]
    refine ⟨by rw [ed]; exact hr.lot hw h2, by rw [drw_10, e13], hw.hi (drw_ne (by omega)) (drw_ne (by omega)) (fun k hk => drw_ne (by omega))⟩
  have hd1 := drw_rg (ρ := ρ)
  have hd2 := drw_rg (ρ := drw ρ)
  obtain ⟨r1, v1, w1⟩ := dr mi ρ hR hwf h8.2
  refine r_aload_n (dc kc_X7_flipByLots 0 rfl) rfl <| s_getI (dc kc_X7_flipByLots 1 rfl) fl_X7_66 <| s_if_le (tgt := 70) (dc kc_X7_flipByLots 2 rfl) rfl (fun c4 => (s_return (dc kc_X7_flipByLots 39 rfl) rfl (Nat.zero_le _) (Nat.zero_le _) ?_)) (fun c4 => (r_aload_n (dc kc_X7_flipByLots 3 rfl) rfl <| k_s (dc kc_X7_flipByLots 4 rfl) rfl <| c_v1r (dc kc_X7_flipByLots 5 rfl) cl_X7_143 rfl (Nat.le_of_ble_eq_true rfl) (Nat.zero_le _) (Nat.zero_le _) ?_))
  · rw [e12] at c4
    refine hQ mi Cg.rf ?_
    unfold lotR
    rw [if_pos c4]
    exact hR
  · rw [e12] at c4
    refine u_draw hL (by rw [e13]; exact h10.1) (by rw [e13]; exact h10.2) (by decide) ?_
    rw [v1] at r1 ⊢
    have g1 : Cg (pLt g) mi (up mi g 5 13 (drw ρ 10)) := Cg.rf.up (by simp [pLt])
    have f12 : up mi g 5 13 (drw ρ 10) g 5 12 = ρ 9 := by rw [up_k (by decide), e12]
    have f13 : up mi g 5 13 (drw ρ 10) g 5 13 = drw ρ 10 := up_at
    generalize up mi g 5 13 (drw ρ 10) = m1 at *
    obtain ⟨r2, v2, w2⟩ := dr m1 (drw ρ) r1 w1 (by rw [drw_ne (by omega)]; exact h8.2)
    refine r_aload_n (dc kc_X7_flipByLots 6 rfl) rfl <| s_getI (dc kc_X7_flipByLots 7 rfl) fl_X7_66 <| s_icmp_ge (tgt := 70) (dc kc_X7_flipByLots 8 rfl) rfl (fun c18 => (s_return (dc kc_X7_flipByLots 39 rfl) rfl (Nat.zero_le _) (Nat.zero_le _) ?_)) (fun c18 => (r_aload_n (dc kc_X7_flipByLots 9 rfl) rfl <| k_b (dc kc_X7_flipByLots 10 rfl) rfl <| c_v1r (dc kc_X7_flipByLots 11 rfl) cl_X7_143 rfl (Nat.le_of_ble_eq_true rfl) (Nat.zero_le _) (Nat.zero_le _) ?_))
    · rw [f12] at c18
      refine hQ m1 g1 ?_
      unfold lotR
      rw [if_neg (by omega), if_pos c18]
      exact r1
    · rw [f12] at c18
      refine u_draw hL (by rw [f13]; exact hd1.1) (by rw [f13]; exact hd1.2) (by decide) ?_
      rw [v2] at r2 ⊢
      have g2 : Cg (pLt g) mi (up m1 g 5 13 (drw (drw ρ) 10)) := g1.up (by simp [pLt])
      have f13' : up m1 g 5 13 (drw (drw ρ) 10) g 5 13 = drw (drw ρ) 10 := up_at
      generalize up m1 g 5 13 (drw (drw ρ) 10) = m2 at *
      obtain ⟨r3, v3, w3⟩ := dr m2 (drw (drw ρ)) r2 w2 (by rw [drw_ne (by omega), drw_ne (by omega)]; exact h8.2)
      have hlc := lotC_rg (ρ := ρ)
      have ed3 : ∀ k, k ≠ 10 → drw (drw (drw ρ)) k = ρ k := fun k z => drw3 z
      have hI3 : InvW (drw (drw (drw ρ))) := hI.cong h8.2 (fun k z => by unfold rlW at z; exact ed3 _ (by omega))
      -- the flip
      have fl : ∀ (m3 : MI) (v : Int), v = lotV ρ → Cg (pLt g) mi m3 → Rep e m3 g (drw (drw (drw ρ))) → ∀ x3, Run (d+5) mt_X7_flipByLots Q (n, mr, 0, 0) m3 52 [vR (some (g, 5)), vI s, vI (drw (drw ρ) 10 % 24), x3] [vI v] := by
        intro m3 v ev g3 r3 x3
        refine t_i3 (dc kc_X7_flipByLots 25 rfl) (Nat.le_of_ble_eq_true rfl) rfl <| r_aload_n (dc kc_X7_flipByLots 26 rfl) rfl <| s_iload_n (dc kc_X7_flipByLots 27 rfl) rfl <| s_iload_n (dc kc_X7_flipByLots 28 rfl) rfl <| s_iload_n (dc kc_X7_flipByLots 29 rfl) rfl <| c_v3 (dc kc_X7_flipByLots 30 rfl) cl_X7_149 rfl (Nat.le_of_ble_eq_true rfl) (Nat.zero_le _) (Nat.zero_le _) ?_
        rw [show drw (drw ρ) 10 % 24 = lotC ρ from rfl]
        refine u_flipTo hL hg r3 hI3 w3 (by rw [ed3 8 (by omega)]; exact h8) (by rw [ed3 19 (by omega)]; exact hx) hlc.1 hlc.2 (by rw [ed3 0 (by omega)]; exact hs) (fun m4 g4 r4 => ?_)
        refine r_aload_n (dc kc_X7_flipByLots 31 rfl) rfl <| s_getA (dc kc_X7_flipByLots 32 rfl) fl_X7_42 (ly_5_5 hL (by assumption)) <| k_i (dc kc_X7_flipByLots 33 rfl) rfl <| s_dup2 (dc kc_X7_flipByLots 34 rfl) rfl rfl <| s_iaload (dc kc_X7_flipByLots 35 rfl) rfl (by first | omega | (simp [up] <;> omega)) (by first | omega | (simp [up] <;> omega)) <| k_i (dc kc_X7_flipByLots 36 rfl) rfl <| s_iadd (dc kc_X7_flipByLots 37 rfl) <| s_iastore (dc kc_X7_flipByLots 38 rfl) rfl (by first | omega | (simp [up] <;> omega)) (by first | omega | (simp [up] <;> omega)) <| s_return (dc kc_X7_flipByLots 39 rfl) rfl (Nat.zero_le _) (Nat.zero_le _) ?_
        have f8 := flipR_8 (ρ := drw (drw (drw ρ))) (c := lotC ρ) (v := v) (by rw [ed3 8 (by omega)]; exact h8.1) (by rw [ed3 8 (by omega)]; exact h8.2) hlc.1
        have fo : ∀ k, k ≠ 8 → k ≠ 20 → (k < 30 ∨ 2046 ≤ k) → flipR (drw (drw (drw ρ))) (lotC ρ) v k = drw (drw (drw ρ)) k := fun k z1 z2 z3 => flipR_off (by rw [ed3 8 (by omega)]; exact h8.1) (by rw [ed3 8 (by omega)]; exact h8.2) (by omega)
        have e6 : m4 g 6 5 = flipR (drw (drw (drw ρ))) (lotC ρ) v 5 := r4.2.2.2.2.2.2.1 5 (by omega) (by omega) (Ne.symm he)
        refine hQ _ ((g3.tr (g4.mono (fun _ _ _ z => by simp [pLt, z]))).up (by simp [pLt])) ?_
        have := r4.cnt (k := 5) (v := w32 (m4 g 6 5 + 1)) (w3.hi (fo 16 (by omega) (by omega) (by omega)) (fo 17 (by omega) (by omega) (by omega)) (fun k hk => fo k (by omega) (by omega) (by omega))) f8.2 (by omega) (by omega)
        unfold lotR
        rw [if_neg (by omega), if_neg (by omega), ← ev]
        unfold inc
        rw [e6] at this ⊢
        exact this
      refine t_i2 (dc kc_X7_flipByLots 12 rfl) (Nat.le_of_ble_eq_true rfl) rfl <| s_iload_n (dc kc_X7_flipByLots 13 rfl) rfl <| c_s1r (dc kc_X7_flipByLots 14 rfl) cl_X7_146 rfl (Nat.le_of_ble_eq_true rfl) (Nat.zero_le _) (Nat.zero_le _) <| u_isNumber (by first | omega | (simp [up] <;> omega)) <| s_if_eqb (tgt := 44) (dc kc_X7_flipByLots 15 rfl) rfl (fun c32 => (r_aload_n (dc kc_X7_flipByLots 20 rfl) rfl <| k_b (dc kc_X7_flipByLots 21 rfl) rfl <| c_v1r (dc kc_X7_flipByLots 22 rfl) cl_X7_143 rfl (Nat.le_of_ble_eq_true rfl) (Nat.zero_le _) (Nat.zero_le _) ?_)) (fun c32 => (r_aload_n (dc kc_X7_flipByLots 16 rfl) rfl <| k_b (dc kc_X7_flipByLots 17 rfl) rfl <| c_v1r (dc kc_X7_flipByLots 18 rfl) cl_X7_143 rfl (Nat.le_of_ble_eq_true rfl) (Nat.zero_le _) (Nat.zero_le _) ?_))
      · refine u_draw hL (by rw [f13']; exact hd2.1) (by rw [f13']; exact hd2.2) (by decide) ?_
        rw [v3] at r3 ⊢
        have hd3 := drw_rg (ρ := drw (drw ρ))
        refine k_i (dc kc_X7_flipByLots 23 rfl) rfl <| b_isub (dc kc_X7_flipByLots 24 rfl) (by first | omega | (simp [up] <;> omega)) (by first | omega | (simp [up] <;> omega)) <| ?_
        refine fl _ _ ?_ (g2.up (by simp [pLt])) r3 _
        unfold lotV
        rw [if_pos (by rw [show drw (drw ρ) 10 % 24 = lotC ρ from rfl] at c32; omega)]
      · refine u_draw hL (by rw [f13']; exact hd2.1) (by rw [f13']; exact hd2.2) (by decide) ?_
        rw [v3] at r3 ⊢
        refine s_goto (tgt := 52) (dc kc_X7_flipByLots 19 rfl) rfl <| ?_
        refine fl _ _ ?_ (g2.up (by simp [pLt])) r3 _
        unfold lotV
        rw [if_neg (by rw [show drw (drw ρ) 10 % 24 = lotC ρ from rfl] at c32; omega)]
/-- laws found broken are noted -/
theorem u_noteBroken (hL : Lay G mr) {mi : MI} {g : Nat} {ρ : Int → Int} (hg : g < G) {s b : Int} {N : Nat} {H : Int → Int} (hN : N ≤ 12) (hb : ∀ l : Int, 0 ≤ l → l < N → (bAnd (bShr b l) 1 = 0 ↔ H l = 1)) (rH : ∀ l, 0 ≤ l → l < 12 → mi g 41 l = ρ (110 + 3 * l) ∧ mi g 42 l = ρ (110 + 3 * l + 1)) (hQ : ∀ mi', Cg (fun a c _ => a == g && (c == 41 || c == 42)) mi mi' → (∀ l, 0 ≤ l → l < 12 → mi' g 41 l = f1 ρ s H N (110 + 3 * l) ∧ mi' g 42 l = f1 ρ s H N (110 + 3 * l + 1)) → Q (vX 0) mi' n mr) : Tx (d+1) mt_X9_noteBroken [vR (some (g, 40)), vI s, vI b, vI (N : Int)] mi n mr Q := by
  have hok : okI G 40 g := hg
  refine tx_intro (ls := [vR (some (g, 40)), vI s, vI b, vI (N : Int), vX 0]) om_X9_noteBroken rfl (Nat.le_of_ble_eq_true rfl) ?_
  have loop : ∀ i : Nat, i ≤ N → ∀ m : MI, Cg (fun a c _ => a == g && (c == 41 || c == 42)) mi m → (∀ l, 0 ≤ l → l < 12 → m g 41 l = f1 ρ s H i (110 + 3 * l) ∧ m g 42 l = f1 ρ s H i (110 + 3 * l + 1)) → Run (d+1) mt_X9_noteBroken Q (n, mr, 0, 0) m 3 [vR (some (g, 40)), vI s, vI b, vI (N : Int), vI (i : Int)] [] := by
    refine nloop ?_
    intro i hi ih m hC hm
    by_cases he : i < N
    · have hbi := hb i (by omega) (by omega)
      have hmi := hm i (by omega) (by omega)
      have o1 : f1 ρ s H i (110 + 3 * (i : Int)) = ρ (110 + 3 * (i : Int)) := f1_off (by omega)
      have o2 : f1 ρ s H i (110 + 3 * (i : Int) + 1) = ρ (110 + 3 * (i : Int) + 1) := f1_off (by omega)
      rw [o1, o2] at hmi
      have fin : ∀ m' : MI, Cg (fun a c _ => a == g && (c == 41 || c == 42)) mi m' → (∀ l : Int, 0 ≤ l → l < 12 → l ≠ i → m' g 41 l = m g 41 l ∧ m' g 42 l = m g 42 l) → m' g 41 i = (if H i = 1 then -1 else if ρ (110 + 3 * (i : Int)) = -1 then s else ρ (110 + 3 * (i : Int))) → m' g 42 i = (if H i = 1 then -1 else ρ (110 + 3 * (i : Int) + 1)) → Run (d+1) mt_X9_noteBroken Q (n, mr, 0, 0) m' 63 [vR (some (g, 40)), vI s, vI b, vI (N : Int), vI (i : Int)] [] := by
        intro m' hC' ho e41 e42
        have := ih he m' hC' (fun l a b => ?_)
        · refine b_inc4 (dc kc_X9_noteBroken 36 rfl) rfl (Nat.le_of_ble_eq_true rfl) rfl (by first | omega | (simp [up] <;> omega)) (by first | omega | (simp [up] <;> omega)) <| s_goto (tgt := 3) (dc kc_X9_noteBroken 37 rfl) rfl <| ?_
          exact this
        · rw [show ((i + 1 : Nat) : Int) = (i : Int) + 1 by omega, f1_succ (by omega)]
          by_cases el : l = i
          · rw [el, ud_ne (by omega), ud_at, ud_at, e41, e42]
            exact ⟨rfl, rfl⟩
          · rw [ud_ne (by omega), ud_ne (by omega), ud_ne (by omega), ud_ne (by omega), (ho l a b el).1, (ho l a b el).2]
            exact hm l a b
      refine s_iload (dc kc_X9_noteBroken 2 rfl) rfl <| s_iload_n (dc kc_X9_noteBroken 3 rfl) rfl <| s_icmp_ge (tgt := 69) (dc kc_X9_noteBroken 4 rfl) rfl (fun c6 => (?_)) (fun c6 => (s_iload (dc kc_X9_noteBroken 5 rfl) rfl <| k_b (dc kc_X9_noteBroken 6 rfl) rfl <| s_icmp_ge (tgt := 69) (dc kc_X9_noteBroken 7 rfl) rfl (fun c13 => (?_)) (fun c13 => (s_iload_n (dc kc_X9_noteBroken 8 rfl) rfl <| s_iload (dc kc_X9_noteBroken 9 rfl) rfl <| s_ishr (dc kc_X9_noteBroken 10 rfl) <| k_i (dc kc_X9_noteBroken 11 rfl) rfl <| s_iand (dc kc_X9_noteBroken 12 rfl) <| s_if_ne (tgt := 44) (dc kc_X9_noteBroken 13 rfl) rfl (fun c22 => (r_aload_n (dc kc_X9_noteBroken 25 rfl) rfl <| s_getA (dc kc_X9_noteBroken 26 rfl) fl_X9_21 (ly_40_3 hL (by assumption)) <| s_iload (dc kc_X9_noteBroken 27 rfl) rfl <| s_iaload (dc kc_X9_noteBroken 28 rfl) rfl (by first | omega | (simp [up] <;> omega)) (by first | omega | (simp [up] <;> omega)) <| k_i (dc kc_X9_noteBroken 29 rfl) rfl <| s_icmp_ne (tgt := 63) (dc kc_X9_noteBroken 30 rfl) rfl (fun c52 => (?_)) (fun c52 => (r_aload_n (dc kc_X9_noteBroken 31 rfl) rfl <| s_getA (dc kc_X9_noteBroken 32 rfl) fl_X9_21 (ly_40_3 hL (by assumption)) <| s_iload (dc kc_X9_noteBroken 33 rfl) rfl <| s_iload_n (dc kc_X9_noteBroken 34 rfl) rfl <| s_iastore (dc kc_X9_noteBroken 35 rfl) rfl (by first | omega | (simp [up] <;> omega)) (by first | omega | (simp [up] <;> omega)) <| ?_)))) (fun c22 => (r_aload_n (dc kc_X9_noteBroken 14 rfl) rfl <| s_getA (dc kc_X9_noteBroken 15 rfl) fl_X9_21 (ly_40_3 hL (by assumption)) <| s_iload (dc kc_X9_noteBroken 16 rfl) rfl <| k_i (dc kc_X9_noteBroken 17 rfl) rfl <| s_iastore (dc kc_X9_noteBroken 18 rfl) rfl (by first | omega | (simp [up] <;> omega)) (by first | omega | (simp [up] <;> omega)) <| r_aload_n (dc kc_X9_noteBroken 19 rfl) rfl <| s_getA (dc kc_X9_noteBroken 20 rfl) fl_X9_25 (ly_40_4 hL (by assumption)) <| s_iload (dc kc_X9_noteBroken 21 rfl) rfl <| k_i (dc kc_X9_noteBroken 22 rfl) rfl <| s_iastore (dc kc_X9_noteBroken 23 rfl) rfl (by first | omega | (simp [up] <;> omega)) (by first | omega | (simp [up] <;> omega)) <| s_goto (tgt := 63) (dc kc_X9_noteBroken 24 rfl) rfl <| ?_))))))
      all_goals first | (exfalso; omega) | skip
      · have hH : H i ≠ 1 := fun z => c22 (hbi.mpr z)
        rw [hmi.1] at c52
        exact fin m hC (fun _ _ _ _ => ⟨rfl, rfl⟩) (by rw [if_neg hH, if_neg c52, hmi.1]) (by rw [if_neg hH, hmi.2])
      · have hH : H i ≠ 1 := fun z => c22 (hbi.mpr z)
        rw [hmi.1] at c52
        exact fin _ (hC.up (by simp)) (fun l a b c => ⟨by rw [up_ud, ud_ne c], by rw [up_j (by decide)]⟩) (by rw [up_at, if_neg hH, if_pos c52]) (by rw [up_j (by decide), if_neg hH, hmi.2])
      · have hH : H i = 1 := hbi.mp c22
        exact fin _ ((hC.up (by simp)).up (by simp)) (fun l a b c => ⟨by rw [up_j (by decide), up_ud, ud_ne c], by rw [up_ud, ud_ne c, up_j (by decide)]⟩) (by rw [up_j (by decide), up_at, if_pos hH]) (by rw [up_at, if_pos hH])
    · refine s_iload (dc kc_X9_noteBroken 2 rfl) rfl <| s_iload_n (dc kc_X9_noteBroken 3 rfl) rfl <| s_icmp_ge (tgt := 69) (dc kc_X9_noteBroken 4 rfl) rfl (fun c6 => (s_return (dc kc_X9_noteBroken 38 rfl) rfl (Nat.zero_le _) (Nat.zero_le _) ?_)) (fun c6 => (?_))
      · rw [show i = N by omega] at hm; exact hQ m hC hm
      · exfalso; omega
  refine k_i (dc kc_X9_noteBroken 0 rfl) rfl <| t_i4 (dc kc_X9_noteBroken 1 rfl) (Nat.le_of_ble_eq_true rfl) rfl <| ?_
  exact loop 0 (Nat.zero_le _) mi Cg.rf (fun l a b => by rw [show ((0 : Nat) : Int) = 0 from rfl, f1_0]; exact rH l a b)
theorem u_noteSeen (hL : Lay G mr) {mi : MI} {g : Nat} {ρ : Int → Int} (hg : g < G) {s b : Int} {N : Nat} {H A : Int → Int} (hN : N ≤ 12) (hs : 0 ≤ s ∧ s ≤ 1000000) (hA : ∀ l, A l = 0 ∨ A l = 1) (hb : ∀ l : Int, 0 ≤ l → l < 12 → (bAnd (bShr b l) 1 = 1 ↔ l < N ∧ A l = 1 ∧ H l ≠ 1)) (rH : ∀ l, 0 ≤ l → l < 12 → mi g 41 l = ρ (110 + 3 * l) ∧ mi g 42 l = ρ (110 + 3 * l + 1) ∧ mi g 43 l = ρ (110 + 3 * l + 2)) (hQ : ∀ mi', Cg (fun a c _ => a == g && (c == 42 || c == 43)) mi mi' → (∀ l, 0 ≤ l → l < 12 → mi' g 41 l = f2 ρ s H A N (110 + 3 * l) ∧ mi' g 42 l = f2 ρ s H A N (110 + 3 * l + 1) ∧ mi' g 43 l = f2 ρ s H A N (110 + 3 * l + 2)) → Q (vX 0) mi' n mr) : Tx (d+1) mt_X9_noteSeen [vR (some (g, 40)), vI s, vI b] mi n mr Q := by
  have hok : okI G 40 g := hg
  refine tx_intro (ls := [vR (some (g, 40)), vI s, vI b, vX 0]) om_X9_noteSeen rfl (Nat.le_of_ble_eq_true rfl) ?_
  have f2v : ∀ l, 0 ≤ l → l < 12 → f2 ρ s H A N (110 + 3 * l) = ρ (110 + 3 * l) ∧ f2 ρ s H A N (110 + 3 * l + 1) = (if (l < N ∧ A l = 1 ∧ H l ≠ 1) ∧ ρ (110 + 3 * l + 1) = -1 then s else ρ (110 + 3 * l + 1)) ∧ f2 ρ s H A N (110 + 3 * l + 2) = (if (l < N ∧ A l = 1 ∧ H l ≠ 1) ∧ ρ (110 + 3 * l + 1) = -1 then w32 (s - ρ (110 + 3 * l)) else ρ (110 + 3 * l + 2)) := by
    intro l a b
    have d0 : (110 + 3 * l + 1 - 110) / 3 = l := by omega
    have d1 : (110 + 3 * l + 2 - 110) / 3 = l := by omega
    have x1 : (111 : Int) + 3 * l = 110 + 3 * l + 1 := by omega
    refine ⟨f2_off (by omega) (by omega), ?_, ?_⟩
    · unfold f2
      rw [if_neg (by omega), d0, x1]
      by_cases hc : (l < N ∧ A l = 1 ∧ H l ≠ 1) ∧ ρ (110 + 3 * l + 1) = -1
      · rw [if_pos hc, if_pos ⟨by omega, by omega, ⟨hc.1.2.1, hc.2, hc.1.2.2⟩, by omega⟩, if_pos (by omega)]
      · rw [if_neg hc, if_neg (fun z => hc ⟨⟨by omega, z.2.2.1.1, z.2.2.1.2.2⟩, z.2.2.1.2.1⟩)]
    · unfold f2
      rw [if_neg (by omega), d1, x1]
      by_cases hc : (l < N ∧ A l = 1 ∧ H l ≠ 1) ∧ ρ (110 + 3 * l + 1) = -1
      · rw [if_pos hc, if_pos ⟨by omega, by omega, ⟨hc.1.2.1, hc.2, hc.1.2.2⟩, by omega⟩, if_neg (by omega)]
      · rw [if_neg hc, if_neg (fun z => hc ⟨⟨by omega, z.2.2.1.1, z.2.2.1.2.2⟩, z.2.2.1.2.1⟩)]
  have loop : ∀ i : Nat, i ≤ 12 → ∀ m : MI, Cg (fun a c _ => a == g && (c == 42 || c == 43)) mi m → (∀ l, 0 ≤ l → l < (i : Int) → m g 41 l = f2 ρ s H A N (110 + 3 * l) ∧ m g 42 l = f2 ρ s H A N (110 + 3 * l + 1) ∧ m g 43 l = f2 ρ s H A N (110 + 3 * l + 2)) → (∀ l, (i : Int) ≤ l → l < 12 → m g 41 l = ρ (110 + 3 * l) ∧ m g 42 l = ρ (110 + 3 * l + 1) ∧ m g 43 l = ρ (110 + 3 * l + 2)) → Run (d+1) mt_X9_noteSeen Q (n, mr, 0, 0) m 2 [vR (some (g, 40)), vI s, vI b, vI (i : Int)] [] := by
    refine nloop ?_
    intro i hi ih m hC hlo hup
    by_cases he : i < 12
    · have hv := f2v i (by omega) (by omega)
      have hmi := hup i (by omega) (by omega)
      have hbi := hb i (by omega) (by omega)
      have fin : ∀ m' : MI, Cg (fun a c _ => a == g && (c == 42 || c == 43)) mi m' → (∀ l : Int, l ≠ i → m' g 41 l = m g 41 l ∧ m' g 42 l = m g 42 l ∧ m' g 43 l = m g 43 l) → m' g 41 i = m g 41 i → m' g 42 i = f2 ρ s H A N (110 + 3 * (i : Int) + 1) → m' g 43 i = f2 ρ s H A N (110 + 3 * (i : Int) + 2) → Run (d+1) mt_X9_noteSeen Q (n, mr, 0, 0) m' 48 [vR (some (g, 40)), vI s, vI b, vI (i : Int)] [] := by
        intro m' hC' ho e41 e42 e43
        have := ih he m' hC' (fun l a b => ?_) (fun l a b => ?_)
        · refine b_inc3 (dc kc_X9_noteSeen 33 rfl) rfl (Nat.le_of_ble_eq_true rfl) rfl (by first | omega | (simp [up] <;> omega)) (by first | omega | (simp [up] <;> omega)) <| s_goto (tgt := 2) (dc kc_X9_noteSeen 34 rfl) rfl <| ?_
          exact this
        · by_cases el : l = i
          · rw [el, e41, e42, e43, hmi.1, hv.1]; exact ⟨rfl, rfl, rfl⟩
          · rw [(ho l el).1, (ho l el).2.1, (ho l el).2.2]; exact hlo l a (by omega)
        · rw [(ho l (by omega)).1, (ho l (by omega)).2.1, (ho l (by omega)).2.2]; exact hup l (by omega) b
      refine s_iload_n (dc kc_X9_noteSeen 2 rfl) rfl <| k_b (dc kc_X9_noteSeen 3 rfl) rfl <| s_icmp_ge (tgt := 54) (dc kc_X9_noteSeen 4 rfl) rfl (fun c5 => (?_)) (fun c5 => (s_iload_n (dc kc_X9_noteSeen 5 rfl) rfl <| s_iload_n (dc kc_X9_noteSeen 6 rfl) rfl <| s_ishr (dc kc_X9_noteSeen 7 rfl) <| k_i (dc kc_X9_noteSeen 8 rfl) rfl <| s_iand (dc kc_X9_noteSeen 9 rfl) <| k_i (dc kc_X9_noteSeen 10 rfl) rfl <| s_icmp_ne (tgt := 48) (dc kc_X9_noteSeen 11 rfl) rfl (fun c14 => (?_)) (fun c14 => (r_aload_n (dc kc_X9_noteSeen 12 rfl) rfl <| s_getA (dc kc_X9_noteSeen 13 rfl) fl_X9_25 (ly_40_4 hL (by assumption)) <| s_iload_n (dc kc_X9_noteSeen 14 rfl) rfl <| s_iaload (dc kc_X9_noteSeen 15 rfl) rfl (by first | omega | (simp [up] <;> omega)) (by first | omega | (simp [up] <;> omega)) <| k_i (dc kc_X9_noteSeen 16 rfl) rfl <| s_icmp_ne (tgt := 48) (dc kc_X9_noteSeen 17 rfl) rfl (fun c24 => (?_)) (fun c24 => (r_aload_n (dc kc_X9_noteSeen 18 rfl) rfl <| s_getA (dc kc_X9_noteSeen 19 rfl) fl_X9_25 (ly_40_4 hL (by assumption)) <| s_iload_n (dc kc_X9_noteSeen 20 rfl) rfl <| s_iload_n (dc kc_X9_noteSeen 21 rfl) rfl <| s_iastore (dc kc_X9_noteSeen 22 rfl) rfl (by first | omega | (simp [up] <;> omega)) (by first | omega | (simp [up] <;> omega)) <| r_aload_n (dc kc_X9_noteSeen 23 rfl) rfl <| s_getA (dc kc_X9_noteSeen 24 rfl) fl_X9_28 (ly_40_5 hL (by assumption)) <| s_iload_n (dc kc_X9_noteSeen 25 rfl) rfl <| s_iload_n (dc kc_X9_noteSeen 26 rfl) rfl <| r_aload_n (dc kc_X9_noteSeen 27 rfl) rfl <| s_getA (dc kc_X9_noteSeen 28 rfl) fl_X9_21 (ly_40_3 hL (by assumption)) <| s_iload_n (dc kc_X9_noteSeen 29 rfl) rfl <| s_iaload (dc kc_X9_noteSeen 30 rfl) rfl (by first | omega | (simp [up] <;> omega)) (by first | omega | (simp [up] <;> omega)) <| s_isub (dc kc_X9_noteSeen 31 rfl) <| s_iastore (dc kc_X9_noteSeen 32 rfl) rfl (by first | omega | (simp [up] <;> omega)) (by first | omega | (simp [up] <;> omega)) <| ?_))))))
      all_goals first | (exfalso; omega) | skip
      · exact fin m hC (fun _ _ => ⟨rfl, rfl, rfl⟩) rfl (by rw [hv.2.1, if_neg (fun z => c14 (hbi.mpr z.1)), hmi.2.1]) (by rw [hv.2.2, if_neg (fun z => c14 (hbi.mpr z.1)), hmi.2.2])
      · rw [hmi.2.1] at c24
        exact fin m hC (fun _ _ => ⟨rfl, rfl, rfl⟩) rfl (by rw [hv.2.1, if_neg (fun z => c24 z.2), hmi.2.1]) (by rw [hv.2.2, if_neg (fun z => c24 z.2), hmi.2.2])
      · rw [hmi.2.1] at c24
        have hy := hbi.mp c14
        refine fin _ ((hC.up (by simp)).up (by simp)) (fun l c => ⟨by rw [up_j (by decide), up_j (by decide)], by rw [up_j (by decide), up_ud, ud_ne c], by rw [up_ud, ud_ne c, up_j (by decide)]⟩) (by rw [up_j (by decide), up_j (by decide)]) (by rw [up_j (by decide), up_at, hv.2.1, if_pos ⟨hy, c24⟩]) ?_
        rw [up_at, up_j (by decide), hmi.1, hv.2.2, if_pos ⟨hy, c24⟩]
    · have : i = 12 := by omega
      subst this
      refine s_iload_n (dc kc_X9_noteSeen 2 rfl) rfl <| k_b (dc kc_X9_noteSeen 3 rfl) rfl <| s_icmp_ge (tgt := 54) (dc kc_X9_noteSeen 4 rfl) rfl (fun c5 => (s_return (dc kc_X9_noteSeen 35 rfl) rfl (Nat.zero_le _) (Nat.zero_le _) ?_)) (fun c5 => (?_))
      · exact hQ m hC (fun l a b => hlo l a (by omega))
      · exfalso; omega
  refine k_i (dc kc_X9_noteSeen 0 rfl) rfl <| t_i3 (dc kc_X9_noteSeen 1 rfl) (Nat.le_of_ble_eq_true rfl) rfl <| ?_
  exact loop 0 (Nat.zero_le _) mi Cg.rf (fun l a b => by omega) (fun l a b => rH l (by omega) b)
end ST4
