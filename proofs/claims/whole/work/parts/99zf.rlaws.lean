/-! the reference: laws -/
/-- a text laid into the row -/
def layR (m : MI) (a c M C : Int) (ρ : Int → Int) : Int → Int := fun i => if a ≤ i ∧ i < a + 10 * M then m 0 91 (i - a) else if c ≤ i ∧ i < c + 2 * C then (if (i - c) % 2 = 0 then m 0 87 ((i - c) / 2) else m 0 88 ((i - c) / 2)) else ρ i
section RLS
variable {d n G : Nat} {mr : MR} {Q : V → MI → Nat → MR → Prop} {t : Int → Int} {N : Int}
theorem t_layT (hL : Lay G mr) {mi : MI} {a c M C : Int} (hM : mi 0 80 28 = M) (hM0 : 0 ≤ M) (hM1 : M ≤ 12) (hC : mi 0 80 20 = C) (hC0 : 0 ≤ C) (hC1 : C ≤ 400) (ha : 0 ≤ a) (hac : a + 120 ≤ c) (hc : c + 800 ≤ 3886) (hQ : ∀ m', Ch p81 mi m' → m' 0 81 = layR mi a c M C (mi 0 81) → Q (vX 0) m' n mr) : Tx (d+1) mt_X12_lay [vR (some (0, 80)), vI a, vI c] mi n mr Q := by
  have l2 : ∀ k : Nat, k ≤ C.toNat → ∀ m : MI, Ch p81 mi m → m 0 81 = layR mi a c M k (mi 0 81) → Run (d+1) mt_X12_lay Q (n, mr, 0, 0) m 35 [vR (some (0, 80)), vI a, vI c, vI (k : Int)] [] := by
    refine nloop ?_
    intro k hk ih m gm hm
    have e20 : m 0 80 20 = C := by rw [gm.at (by simp [p81])]; exact hC
    by_cases hlt : (k : Int) < C
    · have ih := ih (by omega)
      have e87 : m 0 87 = mi 0 87 := gm.row (fun k => by simp [p81])
      have e88 : m 0 88 = mi 0 88 := gm.row (fun k => by simp [p81])
      have u88 : ∀ z y, up m 0 81 z y 0 88 = mi 0 88 := fun z y => by rw [up_j (by decide)]; exact e88
      refine s_iload_n (dc kc_X12_lay_0 22 rfl) rfl <| r_aload_n (dc kc_X12_lay_0 23 rfl) rfl <| s_getI (dc kc_X12_lay_0 24 rfl) fl_X12_191 <| s_icmp_ge (tgt := 83) (dc kc_X12_lay_0 25 rfl) rfl (fun c40 => (s_return (dc kc_X12_lay_1 14 rfl) rfl (Nat.zero_le _) (Nat.zero_le _) ?_)) (fun c40 => (r_aload_n (dc kc_X12_lay_0 26 rfl) rfl <| s_getA (dc kc_X12_lay_0 27 rfl) fl_X12_7 (ly_80_2 hL) <| s_iload_n (dc kc_X12_lay_0 28 rfl) rfl <| k_i (dc kc_X12_lay_0 29 rfl) rfl <| s_iload_n (dc kc_X12_lay_0 30 rfl) rfl <| b_imul (dc kc_X12_lay_0 31 rfl) (by first | omega | (simp [up] <;> omega)) (by first | omega | (simp [up] <;> omega)) <| b_iadd (dc kc_X12_lay_0 32 rfl) (by first | omega | (simp [up] <;> omega)) (by first | omega | (simp [up] <;> omega)) <| r_aload_n (dc kc_X12_lay_0 33 rfl) rfl <| s_getA (dc kc_X12_lay_0 34 rfl) fl_X12_33 (ly_80_21 hL) <| s_iload_n (dc kc_X12_lay_0 35 rfl) rfl <| s_iaload (dc kc_X12_lay_0 36 rfl) rfl (by first | omega | (simp [up] <;> omega)) (by first | omega | (simp [up] <;> omega)) <| s_iastore (dc kc_X12_lay_0 37 rfl) rfl (by first | omega | (simp [up] <;> omega)) (by first | omega | (simp [up] <;> omega)) <| r_aload_n (dc kc_X12_lay_0 38 rfl) rfl <| s_getA (dc kc_X12_lay_0 39 rfl) fl_X12_7 (ly_80_2 hL) <| s_iload_n (dc kc_X12_lay_1 0 rfl) rfl <| k_i (dc kc_X12_lay_1 1 rfl) rfl <| s_iload_n (dc kc_X12_lay_1 2 rfl) rfl <| b_imul (dc kc_X12_lay_1 3 rfl) (by first | omega | (simp [up] <;> omega)) (by first | omega | (simp [up] <;> omega)) <| b_iadd (dc kc_X12_lay_1 4 rfl) (by first | omega | (simp [up] <;> omega)) (by first | omega | (simp [up] <;> omega)) <| k_i (dc kc_X12_lay_1 5 rfl) rfl <| b_iadd (dc kc_X12_lay_1 6 rfl) (by first | omega | (simp [up] <;> omega)) (by first | omega | (simp [up] <;> omega)) <| r_aload_n (dc kc_X12_lay_1 7 rfl) rfl <| s_getA (dc kc_X12_lay_1 8 rfl) fl_X12_36 (ly_80_22 hL) <| s_iload_n (dc kc_X12_lay_1 9 rfl) rfl <| s_iaload (dc kc_X12_lay_1 10 rfl) rfl (by first | omega | (simp [up] <;> omega)) (by first | omega | (simp [up] <;> omega)) <| s_iastore (dc kc_X12_lay_1 11 rfl) rfl (by first | omega | (simp [up] <;> omega)) (by first | omega | (simp [up] <;> omega)) <| b_inc3 (dc kc_X12_lay_1 12 rfl) rfl (Nat.le_of_ble_eq_true rfl) rfl (by first | omega | (simp [up] <;> omega)) (by first | omega | (simp [up] <;> omega)) <| s_goto (tgt := 35) (dc kc_X12_lay_1 13 rfl) rfl <| ?_))
      · exfalso; omega
      · rw [e87, u88]
        rw [show ((k + 1 : Nat) : Int) = (k : Int) + 1 by omega] at ih
        refine ih _ ((gm.up (by simp [p81])).up (by simp [p81])) ?_
        rw [up_ud, up_ud, hm]
        funext i
        unfold ud layR
        by_cases z1 : i = c + 2 * (k : Int) + 1
        · rw [if_pos z1, if_neg (by omega), if_pos (by omega), if_neg (by omega), show (i - c) / 2 = (k : Int) by omega]
        · rw [if_neg z1]
          by_cases z2 : i = c + 2 * (k : Int)
          · rw [if_pos z2, if_neg (by omega), if_pos (by omega), if_pos (by omega), show (i - c) / 2 = (k : Int) by omega]
          · rw [if_neg z2]
            by_cases z3 : a ≤ i ∧ i < a + 10 * M
            · rw [if_pos z3, if_pos z3]
            · rw [if_neg z3, if_neg z3]
              by_cases z4 : c ≤ i ∧ i < c + 2 * (k : Int)
              · rw [if_pos z4, if_pos (show c ≤ i ∧ i < c + 2 * ((k : Int) + 1) by omega)]
              · rw [if_neg z4, if_neg (by omega)]
    · have hk2 : (k : Int) = C := by omega
      refine s_iload_n (dc kc_X12_lay_0 22 rfl) rfl <| r_aload_n (dc kc_X12_lay_0 23 rfl) rfl <| s_getI (dc kc_X12_lay_0 24 rfl) fl_X12_191 <| s_icmp_ge (tgt := 83) (dc kc_X12_lay_0 25 rfl) rfl (fun c40 => (s_return (dc kc_X12_lay_1 14 rfl) rfl (Nat.zero_le _) (Nat.zero_le _) ?_)) (fun c40 => (?_))
      · rw [hk2] at hm
        exact hQ m gm hm
      · exfalso; omega
  have l1 : ∀ k : Nat, k ≤ (10 * M).toNat → ∀ m : MI, Ch p81 mi m → m 0 81 = (fun i : Int => if a ≤ i ∧ i < a + (k : Int) then mi 0 91 (i - a) else mi 0 81 i) → Run (d+1) mt_X12_lay Q (n, mr, 0, 0) m 2 [vR (some (0, 80)), vI a, vI c, vI (k : Int)] [] := by
    refine nloop ?_
    intro k hk ih m gm hm
    have e28 : m 0 80 28 = M := by rw [gm.at (by simp [p81])]; exact hM
    by_cases hlt : (k : Int) < 10 * M
    · have ih := ih (by omega)
      have e91 : m 0 91 = mi 0 91 := gm.row (fun k => by simp [p81])
      refine s_iload_n (dc kc_X12_lay_0 2 rfl) rfl <| k_b (dc kc_X12_lay_0 3 rfl) rfl <| r_aload_n (dc kc_X12_lay_0 4 rfl) rfl <| s_getI (dc kc_X12_lay_0 5 rfl) fl_X12_303 <| b_imul (dc kc_X12_lay_0 6 rfl) (by first | omega | (simp [up] <;> omega)) (by first | omega | (simp [up] <;> omega)) <| s_icmp_ge (tgt := 33) (dc kc_X12_lay_0 7 rfl) rfl (fun c10 => (?_)) (fun c10 => (r_aload_n (dc kc_X12_lay_0 8 rfl) rfl <| s_getA (dc kc_X12_lay_0 9 rfl) fl_X12_7 (ly_80_2 hL) <| s_iload_n (dc kc_X12_lay_0 10 rfl) rfl <| s_iload_n (dc kc_X12_lay_0 11 rfl) rfl <| b_iadd (dc kc_X12_lay_0 12 rfl) (by first | omega | (simp [up] <;> omega)) (by first | omega | (simp [up] <;> omega)) <| r_aload_n (dc kc_X12_lay_0 13 rfl) rfl <| s_getA (dc kc_X12_lay_0 14 rfl) fl_X12_45 (ly_80_27 hL) <| s_iload_n (dc kc_X12_lay_0 15 rfl) rfl <| s_iaload (dc kc_X12_lay_0 16 rfl) rfl (by first | omega | (simp [up] <;> omega)) (by first | omega | (simp [up] <;> omega)) <| s_iastore (dc kc_X12_lay_0 17 rfl) rfl (by first | omega | (simp [up] <;> omega)) (by first | omega | (simp [up] <;> omega)) <| b_inc3 (dc kc_X12_lay_0 18 rfl) rfl (Nat.le_of_ble_eq_true rfl) rfl (by first | omega | (simp [up] <;> omega)) (by first | omega | (simp [up] <;> omega)) <| s_goto (tgt := 2) (dc kc_X12_lay_0 19 rfl) rfl <| ?_))
      · exfalso; omega
      · rw [e91]
        rw [show ((k + 1 : Nat) : Int) = (k : Int) + 1 by omega] at ih
        refine ih _ (gm.up (by simp [p81])) ?_
        rw [up_ud, hm]
        funext i
        unfold ud
        dsimp only
        by_cases z1 : i = a + (k : Int)
        · rw [if_pos z1, if_pos (by omega), show i - a = (k : Int) by omega]
        · rw [if_neg z1]
          by_cases z2 : a ≤ i ∧ i < a + (k : Int)
          · rw [if_pos z2, if_pos (by omega)]
          · rw [if_neg z2, if_neg (by omega)]
    · have hk2 : (k : Int) = 10 * M := by omega
      refine s_iload_n (dc kc_X12_lay_0 2 rfl) rfl <| k_b (dc kc_X12_lay_0 3 rfl) rfl <| r_aload_n (dc kc_X12_lay_0 4 rfl) rfl <| s_getI (dc kc_X12_lay_0 5 rfl) fl_X12_303 <| b_imul (dc kc_X12_lay_0 6 rfl) (by first | omega | (simp [up] <;> omega)) (by first | omega | (simp [up] <;> omega)) <| s_icmp_ge (tgt := 33) (dc kc_X12_lay_0 7 rfl) rfl (fun c10 => (k_i (dc kc_X12_lay_0 20 rfl) rfl <| t_i3 (dc kc_X12_lay_0 21 rfl) (Nat.le_of_ble_eq_true rfl) rfl <| ?_)) (fun c10 => (?_))
      · refine l2 0 (Nat.zero_le _) m gm ?_
        rw [hm, hk2]
        funext i
        unfold layR
        by_cases z : a ≤ i ∧ i < a + 10 * M
        · rw [if_pos z, if_pos z]
        · rw [if_neg z, if_neg z, if_neg (by omega)]
      · exfalso; omega
  refine tx_intro (ls := [vR (some (0, 80)), vI a, vI c, vX 0]) om_X12_lay rfl (Nat.le_of_ble_eq_true rfl) ?_
  refine k_i (dc kc_X12_lay_0 0 rfl) rfl <| t_i3 (dc kc_X12_lay_0 1 rfl) (Nat.le_of_ble_eq_true rfl) rfl <| ?_
  refine l1 0 (Nat.zero_le _) mi Ch.rf ?_
  funext i
  rw [if_neg (by omega)]
theorem t_clearLaws (hL : Lay G mr) {mi : MI} (hQ : ∀ m', Ch (fun j k => j == 81 || (j == 80 && k == 33)) mi m' → m' 0 80 33 = 0 → m' 0 81 = (fun i => if 110 ≤ i ∧ i < 146 then -1 else mi 0 81 i) → Q (vX 0) m' n mr) : Tx (d+1) mt_X12_clearLaws [vR (some (0, 80))] mi n mr Q := by
  have l1 : ∀ k : Nat, k ≤ 36 → ∀ m : MI, Ch (fun j k => j == 81 || (j == 80 && k == 33)) mi m → m 0 81 = (fun i : Int => if 110 ≤ i ∧ i < 110 + (k : Int) then -1 else mi 0 81 i) → Run (d+1) mt_X12_clearLaws Q (n, mr, 0, 0) m 2 [vR (some (0, 80)), vI (k : Int)] [] := by
    refine nloop ?_
    intro k hk ih m gm hm
    by_cases hlt : k < 36
    · have ih := ih hlt
      rw [show ((k + 1 : Nat) : Int) = (k : Int) + 1 by omega] at ih
      refine s_iload_n (dc kc_X12_clearLaws 2 rfl) rfl <| k_b (dc kc_X12_clearLaws 3 rfl) rfl <| s_icmp_ge (tgt := 24) (dc kc_X12_clearLaws 4 rfl) rfl (fun c5 => (r_aload_n (dc kc_X12_clearLaws 14 rfl) rfl <| k_i (dc kc_X12_clearLaws 15 rfl) rfl <| s_putI (dc kc_X12_clearLaws 16 rfl) fl_X12_100 <| s_return (dc kc_X12_clearLaws 17 rfl) rfl (Nat.zero_le _) (Nat.zero_le _) ?_)) (fun c5 => (r_aload_n (dc kc_X12_clearLaws 5 rfl) rfl <| s_getA (dc kc_X12_clearLaws 6 rfl) fl_X12_7 (ly_80_2 hL) <| k_b (dc kc_X12_clearLaws 7 rfl) rfl <| s_iload_n (dc kc_X12_clearLaws 8 rfl) rfl <| b_iadd (dc kc_X12_clearLaws 9 rfl) (by first | omega | (simp [up] <;> omega)) (by first | omega | (simp [up] <;> omega)) <| k_i (dc kc_X12_clearLaws 10 rfl) rfl <| s_iastore (dc kc_X12_clearLaws 11 rfl) rfl (by first | omega | (simp [up] <;> omega)) (by first | omega | (simp [up] <;> omega)) <| b_inc1 (dc kc_X12_clearLaws 12 rfl) rfl (Nat.le_of_ble_eq_true rfl) rfl (by first | omega | (simp [up] <;> omega)) (by first | omega | (simp [up] <;> omega)) <| s_goto (tgt := 2) (dc kc_X12_clearLaws 13 rfl) rfl <| ?_))
      · exfalso; omega
      · refine ih _ (gm.up (by simp)) ?_
        rw [up_ud, hm]
        funext i
        unfold ud
        dsimp only
        by_cases z1 : i = 110 + (k : Int)
        · rw [if_pos z1, if_pos (by omega)]
        · rw [if_neg z1]
          by_cases z2 : 110 ≤ i ∧ i < 110 + (k : Int)
          · rw [if_pos z2, if_pos (by omega)]
          · rw [if_neg z2, if_neg (by omega)]
    · have hk2 : k = 36 := by omega
      subst hk2
      refine s_iload_n (dc kc_X12_clearLaws 2 rfl) rfl <| k_b (dc kc_X12_clearLaws 3 rfl) rfl <| s_icmp_ge (tgt := 24) (dc kc_X12_clearLaws 4 rfl) rfl (fun c5 => (r_aload_n (dc kc_X12_clearLaws 14 rfl) rfl <| k_i (dc kc_X12_clearLaws 15 rfl) rfl <| s_putI (dc kc_X12_clearLaws 16 rfl) fl_X12_100 <| s_return (dc kc_X12_clearLaws 17 rfl) rfl (Nat.zero_le _) (Nat.zero_le _) ?_)) (fun c5 => (?_))
      · refine hQ _ (gm.up (by simp)) up_at ?_
        rw [up_j (by decide), hm]
        funext i
        by_cases z : 110 ≤ i ∧ i < 146
        · rw [if_pos z, if_pos (by omega)]
        · rw [if_neg z, if_neg (by omega)]
      · exfalso; omega
  refine tx_intro (ls := [vR (some (0, 80)), vX 0]) om_X12_clearLaws rfl (Nat.le_of_ble_eq_true rfl) ?_
  refine k_i (dc kc_X12_clearLaws 0 rfl) rfl <| t_i1 (dc kc_X12_clearLaws 1 rfl) (Nat.le_of_ble_eq_true rfl) rfl <| ?_
  refine l1 0 (Nat.zero_le _) mi Ch.rf ?_
  funext i
  rw [if_neg (by omega)]
theorem t_isMoreA (hL : Lay G mr) (hP : Tpe t N) {mi : MI} {f u : Int} (hA : RA t N mi f u) (hQ1 : tkF t N f = 91 → ∀ m', Ch pTq mi m' → RA t N m' (nxF t N f) 0 → Q (vI 1) m' n mr) (hQ2 : tkF t N f = 23 → Q (vI 0) mi n mr) (hQ3 : tkF t N f ≠ 91 → tkF t N f ≠ 23 → ∀ m', Ch pTq mi m' → RB m' f → Q (vI 0) m' n mr) : Tx (d+3) mt_X12_isMore [vR (some (0, 80))] mi n mr Q := by
  obtain ⟨⟨a1, a2⟩, ⟨b1, b2, b3, b4⟩, a3, a4, ⟨a5, a6⟩, ⟨a7, a8⟩, a9, a10⟩ := id hA
  have s59 := hA.2.1.sign hP a5 (c := 59) (by decide) (by decide) (by decide)
  have hen := is_end (t := t) (N := N) (f := f) (fun z => (hP.2 f a5 z).1)
  have tl : ¬ (mi 0 80 14 = 3 ∧ mi 0 80 15 = 59) → Run (d+3) mt_X12_isMore Q (n, mr, 0, 0) mi 27 [vR (some (0, 80))] [] := fun hs => by
    have h91 : tkF t N f ≠ 91 := fun z => hs (s59.mpr z)
    refine r_aload_n (dc kc_X12_isMore 14 rfl) rfl <| s_getZ (dc kc_X12_isMore 15 rfl) fl_X12_146 <| s_if_ne (tgt := 45) (dc kc_X12_isMore 16 rfl) rfl (fun c31 => (k_i (dc kc_X12_isMore 22 rfl) rfl <| s_zreturn (dc kc_X12_isMore 23 rfl) rfl (by first | exact Or.inl rfl | exact Or.inr rfl | exact bi_01 | assumption) (Nat.zero_le _) (Nat.zero_le _) ?_)) (fun c31 => (r_aload_n (dc kc_X12_isMore 17 rfl) rfl <| s_getI (dc kc_X12_isMore 18 rfl) fl_X12_168 <| s_if_eq (tgt := 45) (dc kc_X12_isMore 19 rfl) rfl (fun c38 => (k_i (dc kc_X12_isMore 22 rfl) rfl <| s_zreturn (dc kc_X12_isMore 23 rfl) rfl (by first | exact Or.inl rfl | exact Or.inr rfl | exact bi_01 | assumption) (Nat.zero_le _) (Nat.zero_le _) ?_)) (fun c38 => (r_aload_n (dc kc_X12_isMore 20 rfl) rfl <| c_v0 (dc kc_X12_isMore 21 rfl) cl_X12_181 rfl (Nat.le_of_ble_eq_true rfl) (Nat.zero_le _) (Nat.zero_le _) ?_))))
    · exfalso; omega
    · exact hQ2 (hen.mp (by omega))
    · refine t_wrong (Or.inl a3) (fun m2 g2 h2 => ?_)
      rw [if_pos a3, b1] at h2
      refine k_i (dc kc_X12_isMore 22 rfl) rfl <| s_zreturn (dc kc_X12_isMore 23 rfl) rfl (by first | exact Or.inl rfl | exact Or.inr rfl | exact bi_01 | assumption) (Nat.zero_le _) (Nat.zero_le _) ?_
      exact hQ3 h91 (fun z => by have := hen.mpr z; omega) m2 g2 h2
  refine tx_intro (ls := [vR (some (0, 80))]) om_X12_isMore rfl (Nat.le_of_ble_eq_true rfl) ?_
  refine r_aload_n (dc kc_X12_isMore 0 rfl) rfl <| s_getZ (dc kc_X12_isMore 1 rfl) fl_X12_146 <| s_if_ne (tgt := 27) (dc kc_X12_isMore 2 rfl) rfl (fun c4 => (?_)) (fun c4 => (r_aload_n (dc kc_X12_isMore 3 rfl) rfl <| k_b (dc kc_X12_isMore 4 rfl) rfl <| c_v1r (dc kc_X12_isMore 5 rfl) cl_X12_215 rfl (Nat.le_of_ble_eq_true rfl) (Nat.zero_le _) (Nat.zero_le _) <| t_isSign <| s_if_eqb (tgt := 27) (dc kc_X12_isMore 6 rfl) rfl (fun c13 => (?_)) (fun c13 => (r_aload_n (dc kc_X12_isMore 7 rfl) rfl <| c_v0 (dc kc_X12_isMore 8 rfl) cl_X12_152 rfl (Nat.le_of_ble_eq_true rfl) (Nat.zero_le _) (Nat.zero_le _) ?_))))
  · exfalso; omega
  · exact tl c13
  · have h91 : tkF t N f = 91 := s59.mp c13
    have hfN : f < N := by
      by_cases z : N ≤ f
      · have : tkF t N f = 23 := if_pos z
        omega
      · omega
    have hb := ndE_bd (t := t) hfN
    have hto : toF t N f = ndE t N f := if_neg (by omega)
    have hsk := skp_bd (t := t) hb.2
    refine t_next hL hP (e := ndE t N f) ⟨a1, a2⟩ (by rw [b2, hto]) (by omega) hb.2 (fun m2 g2 h2 => ?_)
    refine r_aload_n (dc kc_X12_isMore 9 rfl) rfl <| k_i (dc kc_X12_isMore 10 rfl) rfl <| s_putI (dc kc_X12_isMore 11 rfl) fl_X12_149 <| k_i (dc kc_X12_isMore 12 rfl) rfl <| s_zreturn (dc kc_X12_isMore 13 rfl) rfl (by first | exact Or.inl rfl | exact Or.inr rfl | exact bi_01 | assumption) (Nat.zero_le _) (Nat.zero_le _) ?_
    have g3 : Ch pTq mi (up m2 0 80 18 0) := (g2.mono (fun j k z => by simp [pTk] at z; simp [pTq]; omega)).up (by simp [pTq])
    refine hQ1 h91 _ g3 ⟨⟨by rw [g3.row (fun k => by simp [pTq])]; exact a1, by rw [g3.at (by simp [pTq])]; exact a2⟩, ?_, ?_, up_at, ?_, ⟨by omega, by omega⟩, fun z => by omega, by rw [up_k (by decide), g2.at (by simp [pTk])]; exact a10⟩
    · obtain ⟨h1, h2, h3, h4⟩ := h2
      exact ⟨by rw [up_k (by decide)]; exact h1, by rw [up_k (by decide)]; exact h2, by rw [up_k (by decide)]; exact h3, by rw [up_k (by decide)]; exact h4⟩
    · rw [up_k (by decide), g2.at (by simp [pTk])]; exact a3
    · unfold nxF; omega
theorem t_isMoreD (hL : Lay G mr) (hP : Tpe t N) {mi : MI} {p : Int} (hD : Dd t N mi p) (hQ : ∀ m', Ch pTq mi m' → RB m' p → Q (vI 0) m' n mr) : Tx (d+3) mt_X12_isMore [vR (some (0, 80))] mi n mr Q := by
  rcases hD with hD | hD
  · obtain ⟨a1, a2, a3, a4, a5, a6, a7, a8⟩ := id hD
    have s59 := a2.sign hP a7 (c := 59) (by decide) (by decide) (by decide)
    have hen := is_end (t := t) (N := N) (f := p) (fun z => (hP.2 p a7 z).1)
    have h14 := a2.2.2.1
    refine tx_intro (ls := [vR (some (0, 80))]) om_X12_isMore rfl (Nat.le_of_ble_eq_true rfl) ?_
    refine r_aload_n (dc kc_X12_isMore 0 rfl) rfl <| s_getZ (dc kc_X12_isMore 1 rfl) fl_X12_146 <| s_if_ne (tgt := 27) (dc kc_X12_isMore 2 rfl) rfl (fun c4 => (r_aload_n (dc kc_X12_isMore 14 rfl) rfl <| s_getZ (dc kc_X12_isMore 15 rfl) fl_X12_146 <| s_if_ne (tgt := 45) (dc kc_X12_isMore 16 rfl) rfl (fun c31 => (k_i (dc kc_X12_isMore 22 rfl) rfl <| s_zreturn (dc kc_X12_isMore 23 rfl) rfl (by first | exact Or.inl rfl | exact Or.inr rfl | exact bi_01 | assumption) (Nat.zero_le _) (Nat.zero_le _) ?_)) (fun c31 => (r_aload_n (dc kc_X12_isMore 17 rfl) rfl <| s_getI (dc kc_X12_isMore 18 rfl) fl_X12_168 <| s_if_eq (tgt := 45) (dc kc_X12_isMore 19 rfl) rfl (fun c38 => (k_i (dc kc_X12_isMore 22 rfl) rfl <| s_zreturn (dc kc_X12_isMore 23 rfl) rfl (by first | exact Or.inl rfl | exact Or.inr rfl | exact bi_01 | assumption) (Nat.zero_le _) (Nat.zero_le _) ?_)) (fun c38 => (r_aload_n (dc kc_X12_isMore 20 rfl) rfl <| c_v0 (dc kc_X12_isMore 21 rfl) cl_X12_181 rfl (Nat.le_of_ble_eq_true rfl) (Nat.zero_le _) (Nat.zero_le _) ?_)))))) (fun c4 => (r_aload_n (dc kc_X12_isMore 3 rfl) rfl <| k_b (dc kc_X12_isMore 4 rfl) rfl <| c_v1r (dc kc_X12_isMore 5 rfl) cl_X12_215 rfl (Nat.le_of_ble_eq_true rfl) (Nat.zero_le _) (Nat.zero_le _) <| t_isSign <| s_if_eqb (tgt := 27) (dc kc_X12_isMore 6 rfl) rfl (fun c13 => (r_aload_n (dc kc_X12_isMore 14 rfl) rfl <| s_getZ (dc kc_X12_isMore 15 rfl) fl_X12_146 <| s_if_ne (tgt := 45) (dc kc_X12_isMore 16 rfl) rfl (fun c31 => (k_i (dc kc_X12_isMore 22 rfl) rfl <| s_zreturn (dc kc_X12_isMore 23 rfl) rfl (by first | exact Or.inl rfl | exact Or.inr rfl | exact bi_01 | assumption) (Nat.zero_le _) (Nat.zero_le _) ?_)) (fun c31 => (r_aload_n (dc kc_X12_isMore 17 rfl) rfl <| s_getI (dc kc_X12_isMore 18 rfl) fl_X12_168 <| s_if_eq (tgt := 45) (dc kc_X12_isMore 19 rfl) rfl (fun c38 => (k_i (dc kc_X12_isMore 22 rfl) rfl <| s_zreturn (dc kc_X12_isMore 23 rfl) rfl (by first | exact Or.inl rfl | exact Or.inr rfl | exact bi_01 | assumption) (Nat.zero_le _) (Nat.zero_le _) ?_)) (fun c38 => (r_aload_n (dc kc_X12_isMore 20 rfl) rfl <| c_v0 (dc kc_X12_isMore 21 rfl) cl_X12_181 rfl (Nat.le_of_ble_eq_true rfl) (Nat.zero_le _) (Nat.zero_le _) ?_)))))) (fun c13 => (?_))))
    all_goals first
      | (exfalso; omega)
      | (exfalso; exact a5 (s59.mp c13))
      | (exfalso; exact a6 (hen.mp (by omega)))
      | skip
    refine t_wrong (Or.inl a3) (fun m2 g2 h2 => ?_)
    rw [if_pos a3, a2.1] at h2
    refine k_i (dc kc_X12_isMore 22 rfl) rfl <| s_zreturn (dc kc_X12_isMore 23 rfl) rfl (by first | exact Or.inl rfl | exact Or.inr rfl | exact bi_01 | assumption) (Nat.zero_le _) (Nat.zero_le _) ?_
    exact hQ m2 g2 h2
  · have e17 := hD.1
    refine tx_intro (ls := [vR (some (0, 80))]) om_X12_isMore rfl (Nat.le_of_ble_eq_true rfl) ?_
    refine r_aload_n (dc kc_X12_isMore 0 rfl) rfl <| s_getZ (dc kc_X12_isMore 1 rfl) fl_X12_146 <| s_if_ne (tgt := 27) (dc kc_X12_isMore 2 rfl) rfl (fun c4 => (r_aload_n (dc kc_X12_isMore 14 rfl) rfl <| s_getZ (dc kc_X12_isMore 15 rfl) fl_X12_146 <| s_if_ne (tgt := 45) (dc kc_X12_isMore 16 rfl) rfl (fun c31 => (k_i (dc kc_X12_isMore 22 rfl) rfl <| s_zreturn (dc kc_X12_isMore 23 rfl) rfl (by first | exact Or.inl rfl | exact Or.inr rfl | exact bi_01 | assumption) (Nat.zero_le _) (Nat.zero_le _) ?_)) (fun c31 => (?_)))) (fun c4 => (?_))
    all_goals first | (exfalso; omega) | exact hQ mi Ch.rf hD
end RLS
