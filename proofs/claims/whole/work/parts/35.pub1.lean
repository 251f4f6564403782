/-! the reference: what calls answer, the small ones -/
def p0 (j : Nat) (k : Int) : Bool := j == 80 && k == 0
def pT (j : Nat) (k : Int) : Bool := j == 80 && (k == 0 || k == 1)
def pA (j : Nat) (k : Int) : Bool := j == 81 || (j == 80 && (k == 0 || k == 1))
def pL (j : Nat) (k : Int) : Bool := j == 81 || (j == 80 && (k == 0 || k == 1 || k == 33))
def pG (j : Nat) (k : Int) : Bool := j == 86 || (j == 80 && (k == 0 || k == 11))
def pX (j : Nat) (k : Int) : Bool := j == 85 || j == 92 || (j == 80 && (k == 0 || k == 7 || k == 8 || k == 9 || k == 30))
def pZ (j : Nat) (k : Int) : Bool := j == 81 || j == 85 || j == 92 || (j == 80 && (k == 0 || k == 1 || k == 7 || k == 8 || k == 9 || k == 30 || k == 31 || k == 32 || k == 33))
def pI (j : Nat) (k : Int) : Bool := j == 83 || j == 84 || (j == 80 && (k == 0 || k == 1))
/-- the status behind an answer -/
def stv (v : Int) : Int := if v < 0 then v else 0
section PUB1
variable {d n G : Nat} {mr : MR} {Q : V → MI → Nat → MR → Prop}
theorem pE_pX {j : Nat} {k : Int} (h : pE j k = true) : pX j k = true := by
  unfold pE at h; unfold pX; simp at h ⊢; rcases h with (h | h) | h
  · simp [h]
  · simp [h]
  · obtain ⟨h1, h2⟩ := h; simp [h1]; omega
theorem p0_pX {j : Nat} {k : Int} (h : p0 j k = true) : pX j k = true := by
  unfold p0 at h; unfold pX; simp at h ⊢; simp [h]
theorem t_status {mi : MI} (hQ : ∀ mi', Ch p0 mi mi' → Q (vI (mi 0 80 1)) mi' n mr) : Tx (d+1) mt_X12_status [vR (some (0, 80))] mi n mr Q := by
  refine tx_intro (ls := [vR (some (0, 80))]) om_X12_status rfl (Nat.le_of_ble_eq_true rfl) ?_
  refine r_aload_n (dc kc_X12_status 0 rfl) rfl <| k_i (dc kc_X12_status 1 rfl) rfl <| s_putI (dc kc_X12_status 2 rfl) fl_X12_86 <| r_aload_n (dc kc_X12_status 3 rfl) rfl <| s_getI (dc kc_X12_status 4 rfl) fl_X12_89 <| s_ireturn (dc kc_X12_status 5 rfl) rfl (Nat.zero_le _) (Nat.zero_le _) ?_
  rw [up_k (by decide)]
  exact hQ _ (Ch.rf.up rfl)
theorem t_fault {mi : MI} (hQ : ∀ mi', Ch p0 mi mi' → Q (vI (mi 0 80 16)) mi' n mr) : Tx (d+1) mt_X12_fault [vR (some (0, 80))] mi n mr Q := by
  refine tx_intro (ls := [vR (some (0, 80))]) om_X12_fault rfl (Nat.le_of_ble_eq_true rfl) ?_
  refine r_aload_n (dc kc_X12_fault 0 rfl) rfl <| k_i (dc kc_X12_fault 1 rfl) rfl <| s_putI (dc kc_X12_fault 2 rfl) fl_X12_86 <| r_aload_n (dc kc_X12_fault 3 rfl) rfl <| s_getI (dc kc_X12_fault 4 rfl) fl_X12_29 <| s_ireturn (dc kc_X12_fault 5 rfl) rfl (Nat.zero_le _) (Nat.zero_le _) ?_
  rw [up_k (by decide)]
  exact hQ _ (Ch.rf.up rfl)
theorem t_endC {mi : MI} {x : Int} (hQ1 : ¬ (0 ≤ x ∧ x ≤ mi 0 80 11) → ∀ mi', Ch p0 mi mi' → Q (vI (-1)) mi' n mr) (hQ2 : 0 ≤ x → x ≤ mi 0 80 11 → ∀ mi', Ch pG mi mi' → mi' 0 86 = mi 0 86 → mi' 0 80 11 = x → Q (vI x) mi' n mr) : Tx (d+1) mt_X12_end [vR (some (0, 80)), vI x] mi n mr Q := by
  refine tx_intro (ls := [vR (some (0, 80)), vI x]) om_X12_end rfl (Nat.le_of_ble_eq_true rfl) ?_
  refine r_aload_n (dc kc_X12_end 0 rfl) rfl <| k_i (dc kc_X12_end 1 rfl) rfl <| s_putI (dc kc_X12_end 2 rfl) fl_X12_86 <| s_iload_n (dc kc_X12_end 3 rfl) rfl <| s_if_lt (tgt := 17) (dc kc_X12_end 4 rfl) rfl (fun c6 => (k_i (dc kc_X12_end 9 rfl) rfl <| s_ireturn (dc kc_X12_end 10 rfl) rfl (Nat.zero_le _) (Nat.zero_le _) ?_)) (fun c6 => (s_iload_n (dc kc_X12_end 5 rfl) rfl <| r_aload_n (dc kc_X12_end 6 rfl) rfl <| s_getI (dc kc_X12_end 7 rfl) fl_X12_137 <| s_icmp_le (tgt := 19) (dc kc_X12_end 8 rfl) rfl (fun c14 => (r_aload_n (dc kc_X12_end 11 rfl) rfl <| s_iload_n (dc kc_X12_end 12 rfl) rfl <| s_putI (dc kc_X12_end 13 rfl) fl_X12_137 <| s_iload_n (dc kc_X12_end 14 rfl) rfl <| s_ireturn (dc kc_X12_end 15 rfl) rfl (Nat.zero_le _) (Nat.zero_le _) ?_)) (fun c14 => (k_i (dc kc_X12_end 9 rfl) rfl <| s_ireturn (dc kc_X12_end 10 rfl) rfl (Nat.zero_le _) (Nat.zero_le _) ?_))))
  · exact hQ1 (by omega) _ (Ch.rf.up rfl)
  · rw [up_k (by decide)] at c14
    exact hQ2 (by omega) c14 _ ((Ch.rf.up rfl).up rfl) (by rw [up_j (by decide), up_j (by decide)]) up_at
  · rw [up_k (by decide)] at c14
    exact hQ1 (by omega) _ (Ch.rf.up rfl)
theorem t_isLaw (hL : Lay G mr) {mi : MI} {l : Int} (h0 : 0 ≤ mi 0 81 16) (h1 : mi 0 81 16 ≤ 12) (hQ : Q (vI (bi (0 ≤ l ∧ l < mi 0 81 16))) mi n mr) : Tx (d+2) mt_X12_isLaw [vR (some (0, 80)), vI l] mi n mr Q := by
  refine tx_intro (ls := [vR (some (0, 80)), vI l]) om_X12_isLaw rfl (Nat.le_of_ble_eq_true rfl) ?_
  refine s_iload_n (dc kc_X12_isLaw 0 rfl) rfl <| s_i2l (dc kc_X12_isLaw 1 rfl) <| s_lconst0 (dc kc_X12_isLaw 2 rfl) <| r_aload_n (dc kc_X12_isLaw 3 rfl) rfl <| s_getA (dc kc_X12_isLaw 4 rfl) fl_X12_7 (ly_80_2 hL) <| k_b (dc kc_X12_isLaw 5 rfl) rfl <| s_iaload (dc kc_X12_isLaw 6 rfl) rfl (by first | omega | (simp [up] <;> omega)) (by first | omega | (simp [up] <;> omega)) <| s_i2l (dc kc_X12_isLaw 7 rfl) <| s_lconst1 (dc kc_X12_isLaw 8 rfl) <| b_lsub (dc kc_X12_isLaw 9 rfl) (by first | omega | (simp [up] <;> omega)) (by first | omega | (simp [up] <;> omega)) <| c_s3r (dc kc_X12_isLaw 10 rfl) cl_X12_92 rfl (Nat.le_of_ble_eq_true rfl) (Nat.zero_le _) (Nat.zero_le _) <| t_in <| s_zreturn (dc kc_X12_isLaw 11 rfl) rfl (by first | exact Or.inl rfl | exact Or.inr rfl | exact bi_01 | assumption) (Nat.zero_le _) (Nat.zero_le _) ?_
  rw [bi_congr (q := 0 ≤ l ∧ l < mi 0 81 16) (by omega)]
  exact hQ
theorem t_isLine (hL : Lay G mr) {mi : MI} {l : Int} (h0 : 0 ≤ mi 0 81 17) (h1 : mi 0 81 17 ≤ 12) (hQ : Q (vI (bi (0 ≤ l ∧ l < mi 0 81 17))) mi n mr) : Tx (d+2) mt_X12_isLine [vR (some (0, 80)), vI l] mi n mr Q := by
  refine tx_intro (ls := [vR (some (0, 80)), vI l]) om_X12_isLine rfl (Nat.le_of_ble_eq_true rfl) ?_
  refine s_iload_n (dc kc_X12_isLine 0 rfl) rfl <| s_i2l (dc kc_X12_isLine 1 rfl) <| s_lconst0 (dc kc_X12_isLine 2 rfl) <| r_aload_n (dc kc_X12_isLine 3 rfl) rfl <| s_getA (dc kc_X12_isLine 4 rfl) fl_X12_7 (ly_80_2 hL) <| k_b (dc kc_X12_isLine 5 rfl) rfl <| s_iaload (dc kc_X12_isLine 6 rfl) rfl (by first | omega | (simp [up] <;> omega)) (by first | omega | (simp [up] <;> omega)) <| s_i2l (dc kc_X12_isLine 7 rfl) <| s_lconst1 (dc kc_X12_isLine 8 rfl) <| b_lsub (dc kc_X12_isLine 9 rfl) (by first | omega | (simp [up] <;> omega)) (by first | omega | (simp [up] <;> omega)) <| c_s3r (dc kc_X12_isLine 10 rfl) cl_X12_92 rfl (Nat.le_of_ble_eq_true rfl) (Nat.zero_le _) (Nat.zero_le _) <| t_in <| s_zreturn (dc kc_X12_isLine 11 rfl) rfl (by first | exact Or.inl rfl | exact Or.inr rfl | exact bi_01 | assumption) (Nat.zero_le _) (Nat.zero_le _) ?_
  rw [bi_congr (q := 0 ≤ l ∧ l < mi 0 81 17) (by omega)]
  exact hQ
theorem t_isStep (hL : Lay G mr) {mi : MI} {l : Int} (h0 : 0 ≤ mi 0 81 0) (h1 : mi 0 81 0 ≤ 1000000) (hQ : Q (vI (bi (0 ≤ l ∧ l < mi 0 81 0))) mi n mr) : Tx (d+2) mt_X12_isStep [vR (some (0, 80)), vI l] mi n mr Q := by
  refine tx_intro (ls := [vR (some (0, 80)), vI l]) om_X12_isStep rfl (Nat.le_of_ble_eq_true rfl) ?_
  refine s_iload_n (dc kc_X12_isStep 0 rfl) rfl <| s_i2l (dc kc_X12_isStep 1 rfl) <| s_lconst0 (dc kc_X12_isStep 2 rfl) <| r_aload_n (dc kc_X12_isStep 3 rfl) rfl <| s_getA (dc kc_X12_isStep 4 rfl) fl_X12_7 (ly_80_2 hL) <| k_i (dc kc_X12_isStep 5 rfl) rfl <| s_iaload (dc kc_X12_isStep 6 rfl) rfl (by first | omega | (simp [up] <;> omega)) (by first | omega | (simp [up] <;> omega)) <| s_i2l (dc kc_X12_isStep 7 rfl) <| s_lconst1 (dc kc_X12_isStep 8 rfl) <| b_lsub (dc kc_X12_isStep 9 rfl) (by first | omega | (simp [up] <;> omega)) (by first | omega | (simp [up] <;> omega)) <| c_s3r (dc kc_X12_isStep 10 rfl) cl_X12_92 rfl (Nat.le_of_ble_eq_true rfl) (Nat.zero_le _) (Nat.zero_le _) <| t_in <| s_zreturn (dc kc_X12_isStep 11 rfl) rfl (by first | exact Or.inl rfl | exact Or.inr rfl | exact bi_01 | assumption) (Nat.zero_le _) (Nat.zero_le _) ?_
  rw [bi_congr (q := 0 ≤ l ∧ l < mi 0 81 0) (by omega)]
  exact hQ
theorem t_holds (hL : Lay G mr) {mi : MI} {l : Int} (hI : Inv0 (mi 0 81)) (hQ : ∀ mi', Ch pX mi mi' → Q (vI (if 0 ≤ l ∧ l < mi 0 81 16 then valA (cel mi) (lawC (mi 0 81) l) else -1)) mi' n mr) : Tx (d+7) mt_X12_holds [vR (some (0, 80)), vI l] mi n mr Q := by
  refine tx_intro (ls := [vR (some (0, 80)), vI l]) om_X12_holds rfl (Nat.le_of_ble_eq_true rfl) ?_
  have h16 := hI.2.2.2.2.2.1
  refine r_aload_n (dc kc_X12_holds 0 rfl) rfl <| k_i (dc kc_X12_holds 1 rfl) rfl <| s_putI (dc kc_X12_holds 2 rfl) fl_X12_86 <| r_aload_n (dc kc_X12_holds 3 rfl) rfl <| s_iload_n (dc kc_X12_holds 4 rfl) rfl <| c_v1r (dc kc_X12_holds 5 rfl) cl_X12_368 rfl (Nat.le_of_ble_eq_true rfl) (Nat.zero_le _) (Nat.zero_le _) <| t_isLaw hL (by first | omega | (simp [up] <;> omega)) (by first | omega | (simp [up] <;> omega)) <| s_if_eqb (tgt := 29) (dc kc_X12_holds 6 rfl) rfl (fun c10 => (k_i (dc kc_X12_holds 15 rfl) rfl <| s_ireturn (dc kc_X12_holds 16 rfl) rfl (Nat.zero_le _) (Nat.zero_le _) ?_)) (fun c10 => (r_aload_n (dc kc_X12_holds 7 rfl) rfl <| s_iload_n (dc kc_X12_holds 8 rfl) rfl <| c_v1r (dc kc_X12_holds 9 rfl) cl_X12_371 rfl (Nat.le_of_ble_eq_true rfl) (Nat.zero_le _) (Nat.zero_le _) ?_))
  · rw [up_j (by decide)] at c10
    have := hQ _ (Ch.rf.up (j := 80) (k := 0) (v := 0) rfl)
    rw [if_neg c10] at this
    exact this
  · rw [up_j (by decide)] at c10
    have e81 : up mi 0 80 0 0 0 81 = mi 0 81 := up_j (by decide)
    have ec : cel (up mi 0 80 0 0) = cel mi := by unfold cel; rw [e81]
    have hw := hI.2.2.2.2.2.2.2.2.1 l c10.1 c10.2
    refine t_doesHold hL (by rw [ec]; exact hI.1) c10.1 (by omega) (by rw [e81]; exact hw) (fun mi1 g1 => ?_)
    rw [ec, e81]
    have hq := hQ mi1 ((Ch.rf.up rfl).tr (g1.mono (fun j k h => pE_pX h)))
    rw [if_pos c10] at hq
    have h01 : valA (cel mi) (lawC (mi 0 81) l) = 0 ∨ valA (cel mi) (lawC (mi 0 81) l) = 1 := (law_ev hI.1 hw.2.2.2).2.1
    refine s_if_eq (tgt := 25) (dc kc_X12_holds 10 rfl) rfl (fun c18 => (k_i (dc kc_X12_holds 13 rfl) rfl <| s_goto (tgt := 30) (dc kc_X12_holds 14 rfl) rfl <| s_ireturn (dc kc_X12_holds 16 rfl) rfl (Nat.zero_le _) (Nat.zero_le _) ?_)) (fun c18 => (k_i (dc kc_X12_holds 11 rfl) rfl <| s_goto (tgt := 30) (dc kc_X12_holds 12 rfl) rfl <| s_ireturn (dc kc_X12_holds 16 rfl) rfl (Nat.zero_le _) (Nat.zero_le _) ?_))
    · rw [c18] at hq; exact hq
    · rw [show valA (cel mi) (lawC (mi 0 81) l) = 1 by omega] at hq; exact hq
theorem t_asked (hL : Lay G mr) {mi : MI} {l : Int} (hI : Inv0 (mi 0 81)) (hQ1 : ¬ (0 ≤ l ∧ l < mi 0 81 16) → ∀ mi', Ch pX mi mi' → Q (vI (-1)) mi' n mr) (hQ2 : 0 ≤ l → l < mi 0 81 16 → ∀ mi' m, Ch pX mi mi' → Bm m (askA (cel mi) (lawC (mi 0 81) l)) → Q (vI m) mi' n mr) : Tx (d+7) mt_X12_asked [vR (some (0, 80)), vI l] mi n mr Q := by
  refine tx_intro (ls := [vR (some (0, 80)), vI l]) om_X12_asked rfl (Nat.le_of_ble_eq_true rfl) ?_
  have h16 := hI.2.2.2.2.2.1
  refine r_aload_n (dc kc_X12_asked 0 rfl) rfl <| k_i (dc kc_X12_asked 1 rfl) rfl <| s_putI (dc kc_X12_asked 2 rfl) fl_X12_86 <| r_aload_n (dc kc_X12_asked 3 rfl) rfl <| s_iload_n (dc kc_X12_asked 4 rfl) rfl <| c_v1r (dc kc_X12_asked 5 rfl) cl_X12_368 rfl (Nat.le_of_ble_eq_true rfl) (Nat.zero_le _) (Nat.zero_le _) <| t_isLaw hL (by first | omega | (simp [up] <;> omega)) (by first | omega | (simp [up] <;> omega)) <| s_if_eqb (tgt := 21) (dc kc_X12_asked 6 rfl) rfl (fun c10 => (k_i (dc kc_X12_asked 11 rfl) rfl <| s_ireturn (dc kc_X12_asked 12 rfl) rfl (Nat.zero_le _) (Nat.zero_le _) ?_)) (fun c10 => (r_aload_n (dc kc_X12_asked 7 rfl) rfl <| s_iload_n (dc kc_X12_asked 8 rfl) rfl <| c_v1r (dc kc_X12_asked 9 rfl) cl_X12_374 rfl (Nat.le_of_ble_eq_true rfl) (Nat.zero_le _) (Nat.zero_le _) ?_))
  · rw [up_j (by decide)] at c10
    exact hQ1 c10 _ (Ch.rf.up rfl)
  · rw [up_j (by decide)] at c10
    have e81 : up mi 0 80 0 0 0 81 = mi 0 81 := up_j (by decide)
    have ec : cel (up mi 0 80 0 0) = cel mi := by unfold cel; rw [e81]
    have hw := hI.2.2.2.2.2.2.2.2.1 l c10.1 c10.2
    refine t_askedOf hL (by rw [ec]; exact hI.1) c10.1 (by omega) (by rw [e81]; exact hw) (fun mi1 m g1 hm => ?_)
    rw [ec, e81] at hm
    refine s_goto (tgt := 22) (dc kc_X12_asked 10 rfl) rfl <| s_ireturn (dc kc_X12_asked 12 rfl) rfl (Nat.zero_le _) (Nat.zero_le _) ?_
    exact hQ2 c10.1 c10.2 _ _ ((Ch.rf.up rfl).tr (g1.mono (fun j k h => pE_pX h))) hm
/-- the laws a line bears on, as bits -/
def brsF (ρ : Int → Int) (j : Int) : Nat → Int
  | 0 => 0
  | l + 1 => bOr (brsF ρ j l) (if tgtOf ρ j ∈ needL (lawC ρ l) then bShl 1 l else 0)
theorem t_bears (hL : Lay G mr) {mi : MI} {j : Int} (hI : Inv0 (mi 0 81)) (hQ : ∀ mi', Ch p0 mi mi' → Q (vI (if 0 ≤ j ∧ j < mi 0 81 17 then brsF (mi 0 81) j (mi 0 81 16).toNat else -1)) mi' n mr) : Tx (d+3) mt_X12_bears [vR (some (0, 80)), vI j] mi n mr Q := by
  refine tx_intro (ls := [vR (some (0, 80)), vI j, vX 0, vX 0]) om_X12_bears rfl (Nat.le_of_ble_eq_true rfl) ?_
  have h16 := hI.2.2.2.2.2.1
  have h17 := hI.2.2.2.2.2.2.1
  have hq := hQ _ (Ch.rf.up (j := 80) (k := 0) (v := 0) rfl)
  have e81 : up mi 0 80 0 0 0 81 = mi 0 81 := up_j (by decide)
  generalize hm : up mi 0 80 0 0 = mi0 at *
  have h16a : mi0 0 81 16 = mi 0 81 16 := by rw [e81]
  have h17a : mi0 0 81 17 = mi 0 81 17 := by rw [e81]
  have main : 0 ≤ j → j < mi 0 81 17 → ∀ l : Nat, l ≤ (mi 0 81 16).toNat → Run (d+3) mt_X12_bears Q (n, mr, 0, 0) mi0 19 [vR (some (0, 80)), vI j, vI (brsF (mi 0 81) j l), vI (l : Int)] [] := by
    intro hj0 hj1
    rw [if_pos ⟨hj0, hj1⟩] at hq
    refine nloop ?_
    intro l hl ih
    by_cases he : (l : Int) < mi 0 81 16
    · refine s_iload_n (dc kc_X12_bears 13 rfl) rfl <| r_aload_n (dc kc_X12_bears 14 rfl) rfl <| s_getA (dc kc_X12_bears 15 rfl) fl_X12_7 (ly_80_2 hL) <| k_b (dc kc_X12_bears 16 rfl) rfl <| s_iaload (dc kc_X12_bears 17 rfl) rfl (by first | omega | (simp [up] <;> omega)) (by first | omega | (simp [up] <;> omega)) <| s_icmp_ge (tgt := 55) (dc kc_X12_bears 18 rfl) rfl (fun c27 => (?_)) (fun c27 => (s_iload_n (dc kc_X12_bears 19 rfl) rfl <| r_aload_n (dc kc_X12_bears 20 rfl) rfl <| s_iload_n (dc kc_X12_bears 21 rfl) rfl <| s_iload_n (dc kc_X12_bears 22 rfl) rfl <| c_v2r (dc kc_X12_bears 23 rfl) cl_X12_383 rfl (Nat.le_of_ble_eq_true rfl) (Nat.zero_le _) (Nat.zero_le _) ?_))
      · exfalso; omega
      · refine t_bearsOn hL (by omega) (by omega) (by rw [e81]; exact hI.2.2.2.2.2.2.2.2.1 l (by omega) he) hj0 (by omega) (by rw [e81]; exact (hI.2.2.2.2.2.2.2.2.2 j hj0 hj1).1) ?_
        rw [e81]
        have key : ∀ b, b = (if tgtOf (mi 0 81) j ∈ needL (lawC (mi 0 81) l) then bShl 1 l else 0) → Run (d+3) mt_X12_bears Q (n, mr, 0, 0) mi0 47 [vR (some (0, 80)), vI j, vI (brsF (mi 0 81) j l), vI (l : Int)] [vI b, vI (brsF (mi 0 81) j l)] := by
          intro b eb
          subst eb
          refine s_ior (dc kc_X12_bears 30 rfl) <| t_i2 (dc kc_X12_bears 31 rfl) (Nat.le_of_ble_eq_true rfl) rfl <| b_inc3 (dc kc_X12_bears 32 rfl) rfl (Nat.le_of_ble_eq_true rfl) rfl (by first | omega | (simp [up] <;> omega)) (by first | omega | (simp [up] <;> omega)) <| s_goto (tgt := 19) (dc kc_X12_bears 33 rfl) rfl <| ?_
          exact ih (by omega)
        refine s_if_eq (tgt := 46) (dc kc_X12_bears 24 rfl) rfl (fun c37 => (k_i (dc kc_X12_bears 29 rfl) rfl <| ?_)) (fun c37 => (k_i (dc kc_X12_bears 25 rfl) rfl <| s_iload_n (dc kc_X12_bears 26 rfl) rfl <| s_ishl (dc kc_X12_bears 27 rfl) <| s_goto (tgt := 47) (dc kc_X12_bears 28 rfl) rfl <| ?_))
        · exact key _ (by rw [if_neg (bi_eq0.mp c37)])
        · exact key _ (by rw [if_pos (bi_ne0.mp c37)])
    · refine s_iload_n (dc kc_X12_bears 13 rfl) rfl <| r_aload_n (dc kc_X12_bears 14 rfl) rfl <| s_getA (dc kc_X12_bears 15 rfl) fl_X12_7 (ly_80_2 hL) <| k_b (dc kc_X12_bears 16 rfl) rfl <| s_iaload (dc kc_X12_bears 17 rfl) rfl (by first | omega | (simp [up] <;> omega)) (by first | omega | (simp [up] <;> omega)) <| s_icmp_ge (tgt := 55) (dc kc_X12_bears 18 rfl) rfl (fun c27 => (s_iload_n (dc kc_X12_bears 34 rfl) rfl <| s_ireturn (dc kc_X12_bears 35 rfl) rfl (Nat.zero_le _) (Nat.zero_le _) ?_)) (fun c27 => (?_))
      · rw [show l = (mi 0 81 16).toNat by omega]; exact hq
      · exfalso; omega
  refine r_aload_n (dc kc_X12_bears 0 rfl) rfl <| k_i (dc kc_X12_bears 1 rfl) rfl <| s_putI (dc kc_X12_bears 2 rfl) fl_X12_86 <| r_aload_n (dc kc_X12_bears 3 rfl) rfl <| s_iload_n (dc kc_X12_bears 4 rfl) rfl <| c_v1r (dc kc_X12_bears 5 rfl) cl_X12_380 rfl (Nat.le_of_ble_eq_true rfl) (Nat.zero_le _) (Nat.zero_le _) <| t_isLine hL (by first | omega | (simp [up] <;> omega)) (by first | omega | (simp [up] <;> omega)) <| s_if_neb (tgt := 15) (dc kc_X12_bears 6 rfl) rfl (fun c10 => (k_i (dc kc_X12_bears 9 rfl) rfl <| t_i2 (dc kc_X12_bears 10 rfl) (Nat.le_of_ble_eq_true rfl) rfl <| k_i (dc kc_X12_bears 11 rfl) rfl <| t_i3 (dc kc_X12_bears 12 rfl) (Nat.le_of_ble_eq_true rfl) rfl <| ?_)) (fun c10 => (k_i (dc kc_X12_bears 7 rfl) rfl <| s_ireturn (dc kc_X12_bears 8 rfl) rfl (Nat.zero_le _) (Nat.zero_le _) ?_))
  · rw [hm] at c10 ⊢
    rw [h17a] at c10
    exact main c10.1 c10.2 0 (Nat.zero_le _)
  · rw [hm] at c10 ⊢
    rw [h17a] at c10
    rw [if_neg c10] at hq
    exact hq
end PUB1
