/-! the reference: whether laws hold, what is asked -/
theorem bi_b {a b : Bool} (h : a = b) : bi (a = true) = bi (b = true) := by rw [h]
section REF6
variable {d n G : Nat} {mr : MR} {Q : V → MI → Nat → MR → Prop}
theorem twin_loop (hL : Lay G mr) {mi : MI} (hc : VC (cel mi)) {W : List Int} (hW : ∀ x ∈ W, 0 ≤ x ∧ x ≤ 5) (hl : W.length ≤ 6) (h7 : mi 0 80 7 = W.length) (hA : Arr (mi 0 85) W) (hQ : Q (vI (bi (twin (cel mi) (-1) W = true))) mi n mr) : ∀ i, i ≤ W.length → Run (d+2) mt_X12_isTwin Q (n, mr, 0, 0) mi 4 [vR (some (0, 80)), vI (bi (twin (cel mi) (-1) (W.take i) = true)), vI (i : Int)] [] := by
  refine nloop (fun i hi ih => ?_)
  have hnext : i < W.length → ∀ b : Int, b = bi (twin (cel mi) (-1) (W.take i) = true ∧ cel mi (7 + 3 * mi 0 85 i) = lst (-1) (W.take i)) → Run (d+2) mt_X12_isTwin Q (n, mr, 0, 0) mi 4 [vR (some (0, 80)), vI b, vI ((i : Int) + 1)] [] := fun z b eb => by
    have h := ih z
    rw [hA.take z, twin_snoc] at h
    rw [eb, bi_congr (q := (twin (cel mi) (-1) (W.take i) && decide (cel mi (7 + 3 * mi 0 85 i) = lst (-1) (W.take i))) = true) (by rw [Bool.and_eq_true, decide_eq_true_eq])]
    exact h
  have hlst : i < W.length → 0 < i → lst (-1) (W.take i) = mi 0 85 ((i : Int) - 1) := fun z z0 => by
    obtain ⟨j, rfl⟩ : ∃ j, i = j + 1 := ⟨i - 1, by omega⟩
    rw [hA.take (by omega), lst_snoc]
    congr 1
    omega
  have hx : i < W.length → 0 ≤ mi 0 85 i ∧ mi 0 85 i ≤ 5 := fun z => hW _ (hA.mem (i := i) (by omega) (by omega))
  by_cases he : i < W.length
  · have hx := hx he
    refine s_iload_n (dc kc_X12_isTwin 4 rfl) rfl <| r_aload_n (dc kc_X12_isTwin 5 rfl) rfl <| s_getI (dc kc_X12_isTwin 6 rfl) fl_X12_111 <| s_icmp_ge (tgt := 64) (dc kc_X12_isTwin 7 rfl) rfl (fun c9 => (s_iload_n (dc kc_X12_isTwin 37 rfl) rfl <| s_zreturn (dc kc_X12_isTwin 38 rfl) rfl (by first | exact Or.inl rfl | exact Or.inr rfl | exact bi_01 | assumption) (Nat.zero_le _) (Nat.zero_le _) ?_)) (fun c9 => (s_iload_n (dc kc_X12_isTwin 8 rfl) rfl <| s_if_eq (tgt := 56) (dc kc_X12_isTwin 9 rfl) rfl (fun c13 => (k_i (dc kc_X12_isTwin 33 rfl) rfl <| t_i1 (dc kc_X12_isTwin 34 rfl) (Nat.le_of_ble_eq_true rfl) rfl <| b_inc2 (dc kc_X12_isTwin 35 rfl) rfl (Nat.le_of_ble_eq_true rfl) rfl (by first | omega | (simp [up] <;> omega)) (by first | omega | (simp [up] <;> omega)) <| s_goto (tgt := 4) (dc kc_X12_isTwin 36 rfl) rfl <| ?_)) (fun c13 => (r_aload_n (dc kc_X12_isTwin 10 rfl) rfl <| s_getA (dc kc_X12_isTwin 11 rfl) fl_X12_7 (ly_80_2 hL) <| k_b (dc kc_X12_isTwin 12 rfl) rfl <| r_aload_n (dc kc_X12_isTwin 13 rfl) rfl <| s_getA (dc kc_X12_isTwin 14 rfl) fl_X12_23 (ly_80_6 hL) <| s_iload_n (dc kc_X12_isTwin 15 rfl) rfl <| s_iaload (dc kc_X12_isTwin 16 rfl) rfl (by first | omega | (simp [up] <;> omega)) (by first | omega | (simp [up] <;> omega)) <| c_s1r (dc kc_X12_isTwin 17 rfl) cl_X12_131 rfl (Nat.le_of_ble_eq_true rfl) (Nat.zero_le _) (Nat.zero_le _) <| t_backOf (by first | omega | (simp [up] <;> omega)) (by first | omega | (simp [up] <;> omega)) <| b_iadd (dc kc_X12_isTwin 18 rfl) (by first | omega | (simp [up] <;> omega)) (by first | omega | (simp [up] <;> omega)) <| s_iaload (dc kc_X12_isTwin 19 rfl) rfl (by first | omega | (simp [up] <;> omega)) (by first | omega | (simp [up] <;> omega)) <| s_iload_n (dc kc_X12_isTwin 20 rfl) rfl <| s_if_ne (tgt := 41) (dc kc_X12_isTwin 21 rfl) rfl (fun c34 => (r_aload_n (dc kc_X12_isTwin 24 rfl) rfl <| s_getA (dc kc_X12_isTwin 25 rfl) fl_X12_23 (ly_80_6 hL) <| s_iload_n (dc kc_X12_isTwin 26 rfl) rfl <| k_i (dc kc_X12_isTwin 27 rfl) rfl <| b_isub (dc kc_X12_isTwin 28 rfl) (by first | omega | (simp [up] <;> omega)) (by first | omega | (simp [up] <;> omega)) <| s_iaload (dc kc_X12_isTwin 29 rfl) rfl (by first | omega | (simp [up] <;> omega)) (by first | omega | (simp [up] <;> omega)) <| s_icmp_ne (tgt := 56) (dc kc_X12_isTwin 30 rfl) rfl (fun c49 => (k_i (dc kc_X12_isTwin 33 rfl) rfl <| t_i1 (dc kc_X12_isTwin 34 rfl) (Nat.le_of_ble_eq_true rfl) rfl <| b_inc2 (dc kc_X12_isTwin 35 rfl) rfl (Nat.le_of_ble_eq_true rfl) rfl (by first | omega | (simp [up] <;> omega)) (by first | omega | (simp [up] <;> omega)) <| s_goto (tgt := 4) (dc kc_X12_isTwin 36 rfl) rfl <| ?_)) (fun c49 => (k_i (dc kc_X12_isTwin 31 rfl) rfl <| s_goto (tgt := 57) (dc kc_X12_isTwin 32 rfl) rfl <| t_i1 (dc kc_X12_isTwin 34 rfl) (Nat.le_of_ble_eq_true rfl) rfl <| b_inc2 (dc kc_X12_isTwin 35 rfl) rfl (Nat.le_of_ble_eq_true rfl) rfl (by first | omega | (simp [up] <;> omega)) (by first | omega | (simp [up] <;> omega)) <| s_goto (tgt := 4) (dc kc_X12_isTwin 36 rfl) rfl <| ?_)))) (fun c34 => (k_i (dc kc_X12_isTwin 22 rfl) rfl <| s_goto (tgt := 49) (dc kc_X12_isTwin 23 rfl) rfl <| s_icmp_ne (tgt := 56) (dc kc_X12_isTwin 30 rfl) rfl (fun c49 => (k_i (dc kc_X12_isTwin 33 rfl) rfl <| t_i1 (dc kc_X12_isTwin 34 rfl) (Nat.le_of_ble_eq_true rfl) rfl <| b_inc2 (dc kc_X12_isTwin 35 rfl) rfl (Nat.le_of_ble_eq_true rfl) rfl (by first | omega | (simp [up] <;> omega)) (by first | omega | (simp [up] <;> omega)) <| s_goto (tgt := 4) (dc kc_X12_isTwin 36 rfl) rfl <| ?_)) (fun c49 => (k_i (dc kc_X12_isTwin 31 rfl) rfl <| s_goto (tgt := 57) (dc kc_X12_isTwin 32 rfl) rfl <| t_i1 (dc kc_X12_isTwin 34 rfl) (Nat.le_of_ble_eq_true rfl) rfl <| b_inc2 (dc kc_X12_isTwin 35 rfl) rfl (Nat.le_of_ble_eq_true rfl) rfl (by first | omega | (simp [up] <;> omega)) (by first | omega | (simp [up] <;> omega)) <| s_goto (tgt := 4) (dc kc_X12_isTwin 36 rfl) rfl <| ?_))))))))
    · exfalso; omega
    · exact hnext he _ (by rw [bi_f]; intro z; rw [bi_eq0] at c13; exact c13 z.1)
    · exact hnext he _ (by rw [bi_f]; intro z; rw [hlst he (by omega)] at z; exact c49 z.2)
    · refine hnext he _ (by rw [bi_t]; rw [bi_ne0] at c13; exact ⟨c13, by rw [hlst he (by omega)]; exact c49⟩)
    · have e0 : i = 0 := by omega
      exact hnext he _ (by rw [bi_f]; intro z; rw [e0, List.take_zero] at z; rw [e0] at c49; exact c49 z.2)
    · have e0 : i = 0 := by omega
      exact hnext he _ (by rw [bi_t]; rw [bi_ne0] at c13; refine ⟨c13, ?_⟩; rw [e0, List.take_zero]; rw [e0] at c49; exact c49)
  · have e : i = W.length := by omega
    refine s_iload_n (dc kc_X12_isTwin 4 rfl) rfl <| r_aload_n (dc kc_X12_isTwin 5 rfl) rfl <| s_getI (dc kc_X12_isTwin 6 rfl) fl_X12_111 <| s_icmp_ge (tgt := 64) (dc kc_X12_isTwin 7 rfl) rfl (fun c9 => (s_iload_n (dc kc_X12_isTwin 37 rfl) rfl <| s_zreturn (dc kc_X12_isTwin 38 rfl) rfl (by first | exact Or.inl rfl | exact Or.inr rfl | exact bi_01 | assumption) (Nat.zero_le _) (Nat.zero_le _) ?_)) (fun c9 => (?_))
    · rw [List.take_of_length_le (by omega)]; exact hQ
    · exfalso; omega
theorem t_isTwin (hL : Lay G mr) {mi : MI} (hc : VC (cel mi)) {W : List Int} (hW : ∀ x ∈ W, 0 ≤ x ∧ x ≤ 5) (hl : W.length ≤ 6) (h7 : mi 0 80 7 = W.length) (hA : Arr (mi 0 85) W) (hQ : Q (vI (bi (twin (cel mi) (-1) W = true))) mi n mr) : Tx (d+2) mt_X12_isTwin [vR (some (0, 80))] mi n mr Q := by
  refine tx_intro (ls := [vR (some (0, 80)), vX 0, vX 0]) om_X12_isTwin rfl (Nat.le_of_ble_eq_true rfl) ?_
  refine k_i (dc kc_X12_isTwin 0 rfl) rfl <| t_i1 (dc kc_X12_isTwin 1 rfl) (Nat.le_of_ble_eq_true rfl) rfl <| k_i (dc kc_X12_isTwin 2 rfl) rfl <| t_i2 (dc kc_X12_isTwin 3 rfl) (Nat.le_of_ble_eq_true rfl) rfl <| ?_
  exact twin_loop hL hc hW hl h7 hA hQ 0 (Nat.zero_le _)
theorem rise_loop (hL : Lay G mr) {mi : MI} (hc : VC (cel mi)) {W : List Int} (hW : ∀ x ∈ W, 0 ≤ x ∧ x ≤ 5) (hl : W.length ≤ 6) (h7 : mi 0 80 7 = W.length) (hA : Arr (mi 0 85) W) (hQ : Q (vI (bi (rise (cel mi) 0 W = true))) mi n mr) : ∀ i, i ≤ W.length → 0 < i → Run (d+2) mt_X12_isRising Q (n, mr, 0, 0) mi 4 [vR (some (0, 80)), vI (bi (rise (cel mi) 0 (W.take i) = true)), vI (i : Int)] [] := by
  refine nloop (fun i hi ih h0i => ?_)
  have hnext : i < W.length → ∀ b : Int, b = bi (rise (cel mi) 0 (W.take i) = true ∧ lst 0 ((W.take i).map fun x => cel mi (8 + 3 * x)) ≤ cel mi (8 + 3 * mi 0 85 i)) → Run (d+2) mt_X12_isRising Q (n, mr, 0, 0) mi 4 [vR (some (0, 80)), vI b, vI ((i : Int) + 1)] [] := fun z b eb => by
    have h := ih z (by omega)
    rw [hA.take z, rise_snoc] at h
    rw [eb, bi_congr (q := (rise (cel mi) 0 (W.take i) && decide (lst 0 ((W.take i).map fun x => cel mi (8 + 3 * x)) ≤ cel mi (8 + 3 * mi 0 85 i))) = true) (by rw [Bool.and_eq_true, decide_eq_true_eq])]
    exact h
  have hlst : i < W.length → lst 0 ((W.take i).map fun x => cel mi (8 + 3 * x)) = mi 0 81 (30 + (8 + 3 * mi 0 85 ((i : Int) - 1))) := fun z => by
    obtain ⟨j, rfl⟩ : ∃ j, i = j + 1 := ⟨i - 1, by omega⟩
    rw [hA.take (by omega), List.map_append, List.map_cons, List.map_nil, lst_snoc]
    show mi 0 81 (30 + (8 + 3 * mi 0 85 (j : Int))) = _
    rw [show ((j + 1 : Nat) : Int) - 1 = j by omega]
  have hx : ∀ i : Nat, i < W.length → 0 ≤ mi 0 85 i ∧ mi 0 85 i ≤ 5 := fun i z => hW _ (hA.mem (i := i) (by omega) (by omega))
  by_cases he : i < W.length
  · have hx1 := hx i he
    have hx2 := hx (i - 1) (by omega)
    rw [show ((i - 1 : Nat) : Int) = (i : Int) - 1 by omega] at hx2
    refine s_iload_n (dc kc_X12_isRising_0 4 rfl) rfl <| r_aload_n (dc kc_X12_isRising_0 5 rfl) rfl <| s_getI (dc kc_X12_isRising_0 6 rfl) fl_X12_111 <| s_icmp_ge (tgt := 67) (dc kc_X12_isRising_0 7 rfl) rfl (fun c9 => (s_iload_n (dc kc_X12_isRising_0 39 rfl) rfl <| s_zreturn (dc kc_X12_isRising_1 0 rfl) rfl (by first | exact Or.inl rfl | exact Or.inr rfl | exact bi_01 | assumption) (Nat.zero_le _) (Nat.zero_le _) ?_)) (fun c9 => (s_iload_n (dc kc_X12_isRising_0 8 rfl) rfl <| s_if_eq (tgt := 59) (dc kc_X12_isRising_0 9 rfl) rfl (fun c13 => (k_i (dc kc_X12_isRising_0 35 rfl) rfl <| t_i1 (dc kc_X12_isRising_0 36 rfl) (Nat.le_of_ble_eq_true rfl) rfl <| b_inc2 (dc kc_X12_isRising_0 37 rfl) rfl (Nat.le_of_ble_eq_true rfl) rfl (by first | omega | (simp [up] <;> omega)) (by first | omega | (simp [up] <;> omega)) <| s_goto (tgt := 4) (dc kc_X12_isRising_0 38 rfl) rfl <| ?_)) (fun c13 => (r_aload_n (dc kc_X12_isRising_0 10 rfl) rfl <| s_getA (dc kc_X12_isRising_0 11 rfl) fl_X12_7 (ly_80_2 hL) <| k_b (dc kc_X12_isRising_0 12 rfl) rfl <| r_aload_n (dc kc_X12_isRising_0 13 rfl) rfl <| s_getA (dc kc_X12_isRising_0 14 rfl) fl_X12_23 (ly_80_6 hL) <| s_iload_n (dc kc_X12_isRising_0 15 rfl) rfl <| s_iaload (dc kc_X12_isRising_0 16 rfl) rfl (by first | omega | (simp [up] <;> omega)) (by first | omega | (simp [up] <;> omega)) <| c_s1r (dc kc_X12_isRising_0 17 rfl) cl_X12_134 rfl (Nat.le_of_ble_eq_true rfl) (Nat.zero_le _) (Nat.zero_le _) <| t_keyOf (by first | omega | (simp [up] <;> omega)) (by first | omega | (simp [up] <;> omega)) <| b_iadd (dc kc_X12_isRising_0 18 rfl) (by first | omega | (simp [up] <;> omega)) (by first | omega | (simp [up] <;> omega)) <| s_iaload (dc kc_X12_isRising_0 19 rfl) rfl (by first | omega | (simp [up] <;> omega)) (by first | omega | (simp [up] <;> omega)) <| r_aload_n (dc kc_X12_isRising_0 20 rfl) rfl <| s_getA (dc kc_X12_isRising_0 21 rfl) fl_X12_7 (ly_80_2 hL) <| k_b (dc kc_X12_isRising_0 22 rfl) rfl <| r_aload_n (dc kc_X12_isRising_0 23 rfl) rfl <| s_getA (dc kc_X12_isRising_0 24 rfl) fl_X12_23 (ly_80_6 hL) <| s_iload_n (dc kc_X12_isRising_0 25 rfl) rfl <| k_i (dc kc_X12_isRising_0 26 rfl) rfl <| b_isub (dc kc_X12_isRising_0 27 rfl) (by first | omega | (simp [up] <;> omega)) (by first | omega | (simp [up] <;> omega)) <| s_iaload (dc kc_X12_isRising_0 28 rfl) rfl (by first | omega | (simp [up] <;> omega)) (by first | omega | (simp [up] <;> omega)) <| c_s1r (dc kc_X12_isRising_0 29 rfl) cl_X12_134 rfl (Nat.le_of_ble_eq_true rfl) (Nat.zero_le _) (Nat.zero_le _) <| t_keyOf (by first | omega | (simp [up] <;> omega)) (by first | omega | (simp [up] <;> omega)) <| b_iadd (dc kc_X12_isRising_0 30 rfl) (by first | omega | (simp [up] <;> omega)) (by first | omega | (simp [up] <;> omega)) <| s_iaload (dc kc_X12_isRising_0 31 rfl) rfl (by first | omega | (simp [up] <;> omega)) (by first | omega | (simp [up] <;> omega)) <| s_icmp_lt (tgt := 59) (dc kc_X12_isRising_0 32 rfl) rfl (fun c52 => (k_i (dc kc_X12_isRising_0 35 rfl) rfl <| t_i1 (dc kc_X12_isRising_0 36 rfl) (Nat.le_of_ble_eq_true rfl) rfl <| b_inc2 (dc kc_X12_isRising_0 37 rfl) rfl (Nat.le_of_ble_eq_true rfl) rfl (by first | omega | (simp [up] <;> omega)) (by first | omega | (simp [up] <;> omega)) <| s_goto (tgt := 4) (dc kc_X12_isRising_0 38 rfl) rfl <| ?_)) (fun c52 => (k_i (dc kc_X12_isRising_0 33 rfl) rfl <| s_goto (tgt := 60) (dc kc_X12_isRising_0 34 rfl) rfl <| t_i1 (dc kc_X12_isRising_0 36 rfl) (Nat.le_of_ble_eq_true rfl) rfl <| b_inc2 (dc kc_X12_isRising_0 37 rfl) rfl (Nat.le_of_ble_eq_true rfl) rfl (by first | omega | (simp [up] <;> omega)) (by first | omega | (simp [up] <;> omega)) <| s_goto (tgt := 4) (dc kc_X12_isRising_0 38 rfl) rfl <| ?_))))))
    · exfalso; omega
    · exact hnext he _ (by rw [bi_f]; intro z; rw [bi_eq0] at c13; exact c13 z.1)
    · exact hnext he _ (by rw [bi_f]; intro z; rw [hlst he] at z; have := z.2; unfold cel at this; omega)
    · refine hnext he _ (by rw [bi_t]; rw [bi_ne0] at c13; exact ⟨c13, by rw [hlst he]; unfold cel; omega⟩)
  · have e : i = W.length := by omega
    refine s_iload_n (dc kc_X12_isRising_0 4 rfl) rfl <| r_aload_n (dc kc_X12_isRising_0 5 rfl) rfl <| s_getI (dc kc_X12_isRising_0 6 rfl) fl_X12_111 <| s_icmp_ge (tgt := 67) (dc kc_X12_isRising_0 7 rfl) rfl (fun c9 => (s_iload_n (dc kc_X12_isRising_0 39 rfl) rfl <| s_zreturn (dc kc_X12_isRising_1 0 rfl) rfl (by first | exact Or.inl rfl | exact Or.inr rfl | exact bi_01 | assumption) (Nat.zero_le _) (Nat.zero_le _) ?_)) (fun c9 => (?_))
    · rw [List.take_of_length_le (by omega)]; exact hQ
    · exfalso; omega
theorem t_isRising (hL : Lay G mr) {mi : MI} (hc : VC (cel mi)) {W : List Int} (hW : ∀ x ∈ W, 0 ≤ x ∧ x ≤ 5) (hl : W.length ≤ 6) (h7 : mi 0 80 7 = W.length) (hA : Arr (mi 0 85) W) (hQ : Q (vI (bi (rise (cel mi) 0 W = true))) mi n mr) : Tx (d+2) mt_X12_isRising [vR (some (0, 80))] mi n mr Q := by
  refine tx_intro (ls := [vR (some (0, 80)), vX 0, vX 0]) om_X12_isRising rfl (Nat.le_of_ble_eq_true rfl) ?_
  refine k_i (dc kc_X12_isRising_0 0 rfl) rfl <| t_i1 (dc kc_X12_isRising_0 1 rfl) (Nat.le_of_ble_eq_true rfl) rfl <| k_i (dc kc_X12_isRising_0 2 rfl) rfl <| t_i2 (dc kc_X12_isRising_0 3 rfl) (Nat.le_of_ble_eq_true rfl) rfl <| ?_
  cases W with
  | nil =>
    simp only [List.length_nil] at h7
    refine s_iload_n (dc kc_X12_isRising_0 4 rfl) rfl <| r_aload_n (dc kc_X12_isRising_0 5 rfl) rfl <| s_getI (dc kc_X12_isRising_0 6 rfl) fl_X12_111 <| s_icmp_ge (tgt := 67) (dc kc_X12_isRising_0 7 rfl) rfl (fun c9 => (s_iload_n (dc kc_X12_isRising_0 39 rfl) rfl <| s_zreturn (dc kc_X12_isRising_1 0 rfl) rfl (by first | exact Or.inl rfl | exact Or.inr rfl | exact bi_01 | assumption) (Nat.zero_le _) (Nat.zero_le _) ?_)) (fun c9 => (?_))
    · exact hQ
    · exfalso; omega
  | cons x W =>
    have hx := hW x List.mem_cons_self
    have := hc.nd (x := x) (by omega) (by omega)
    have e : bi (rise (cel mi) 0 ((x :: W).take 1) = true) = 1 := by
      rw [bi_t]
      simp only [List.take_succ_cons, List.take_zero, rise, Bool.and_true, decide_eq_true_eq]
      omega
    have h := rise_loop (d := d) hL hc hW hl h7 hA hQ 1 (by simp) (by decide)
    rw [e] at h
    exact h
theorem apart_loop1 (hL : Lay G mr) {mi : MI} {o : Int} {x4 : V} {W : List Int} (hl : W.length ≤ 6) (hW : ∀ x ∈ W, 0 ≤ x ∧ x ≤ 5) (h7 : mi 0 80 7 = W.length) (hA : Arr (mi 0 85) W) (hQ : ∀ m i, Bm m W → Run (d+3) mt_X12_areApart Q (n, mr, 0, 0) mi 29 [vR (some (0, 80)), vI o, vI m, vI i, x4] []) : ∀ i, i ≤ W.length → ∀ m, Bm m (W.take i) → Run (d+3) mt_X12_areApart Q (n, mr, 0, 0) mi 4 [vR (some (0, 80)), vI o, vI m, vI (i : Int), x4] [] := by
  refine nloop (fun i hi ih m hm => ?_)
  by_cases he : i < W.length
  · have hx : 0 ≤ mi 0 85 i ∧ mi 0 85 i ≤ 5 := hW _ (hA.mem (i := i) (by omega) (by omega))
    refine s_iload_n (dc kc_X12_areApart_0 4 rfl) rfl <| r_aload_n (dc kc_X12_areApart_0 5 rfl) rfl <| s_getI (dc kc_X12_areApart_0 6 rfl) fl_X12_111 <| s_icmp_ge (tgt := 29) (dc kc_X12_areApart_0 7 rfl) rfl (fun c9 => (?_)) (fun c9 => (s_iload_n (dc kc_X12_areApart_0 8 rfl) rfl <| k_i (dc kc_X12_areApart_0 9 rfl) rfl <| r_aload_n (dc kc_X12_areApart_0 10 rfl) rfl <| s_getA (dc kc_X12_areApart_0 11 rfl) fl_X12_23 (ly_80_6 hL) <| s_iload_n (dc kc_X12_areApart_0 12 rfl) rfl <| s_iaload (dc kc_X12_areApart_0 13 rfl) rfl (by first | omega | (simp [up] <;> omega)) (by first | omega | (simp [up] <;> omega)) <| s_ishl (dc kc_X12_areApart_0 14 rfl) <| s_ior (dc kc_X12_areApart_0 15 rfl) <| t_i2 (dc kc_X12_areApart_0 16 rfl) (Nat.le_of_ble_eq_true rfl) rfl <| b_inc3 (dc kc_X12_areApart_0 17 rfl) rfl (Nat.le_of_ble_eq_true rfl) rfl (by first | omega | (simp [up] <;> omega)) (by first | omega | (simp [up] <;> omega)) <| s_goto (tgt := 4) (dc kc_X12_areApart_0 18 rfl) rfl <| ?_))
    · exfalso; omega
    · refine ih he _ ((hm.set (a := mi 0 85 i) (by omega) (by omega)).congr (fun a => ?_))
      rw [hA.take he, List.mem_append, List.mem_cons, List.mem_singleton]
      exact Or.comm
  · refine s_iload_n (dc kc_X12_areApart_0 4 rfl) rfl <| r_aload_n (dc kc_X12_areApart_0 5 rfl) rfl <| s_getI (dc kc_X12_areApart_0 6 rfl) fl_X12_111 <| s_icmp_ge (tgt := 29) (dc kc_X12_areApart_0 7 rfl) rfl (fun c9 => (?_)) (fun c9 => (?_))
    · exact hQ _ _ (by rw [List.take_of_length_le (by omega)] at hm; exact hm)
    · exfalso; omega
theorem apart_loop2 (hL : Lay G mr) {mi : MI} {o m : Int} {W W' : List Int} (hm : Bm m W) (hl : W'.length ≤ 6) (hW : ∀ x ∈ W', 0 ≤ x ∧ x ≤ 5) (h7 : mi 0 80 7 = W'.length) (hA : Arr (mi 0 85) W') (hQ : Q (vI (bi (apart W W' = true))) mi n mr) : ∀ i, i ≤ W'.length → Run (d+3) mt_X12_areApart Q (n, mr, 0, 0) mi 39 [vR (some (0, 80)), vI o, vI m, vI (bi (apart W (W'.take i) = true)), vI (i : Int)] [] := by
  refine nloop (fun i hi ih => ?_)
  by_cases he : i < W'.length
  · have hx : 0 ≤ mi 0 85 i ∧ mi 0 85 i ≤ 5 := hW _ (hA.mem (i := i) (by omega) (by omega))
    have hnext : ∀ b : Int, b = bi (apart W (W'.take i) = true ∧ mi 0 85 i ∉ W) → Run (d+3) mt_X12_areApart Q (n, mr, 0, 0) mi 39 [vR (some (0, 80)), vI o, vI m, vI b, vI ((i : Int) + 1)] [] := fun b eb => by
      have h := ih he
      rw [hA.take he, show apart W (W'.take i ++ [mi 0 85 i]) = (apart W (W'.take i) && decide (mi 0 85 i ∉ W)) by unfold apart; rw [List.all_append]; simp] at h
      rw [eb, bi_congr (q := (apart W (W'.take i) && decide (mi 0 85 i ∉ W)) = true) (by rw [Bool.and_eq_true, decide_eq_true_eq])]
      exact h
    have hbit := hm.bit (a := mi 0 85 i) (by omega) (by omega)
    refine s_iload (dc kc_X12_areApart_0 26 rfl) rfl <| r_aload_n (dc kc_X12_areApart_0 27 rfl) rfl <| s_getI (dc kc_X12_areApart_0 28 rfl) fl_X12_111 <| s_icmp_ge (tgt := 78) (dc kc_X12_areApart_0 29 rfl) rfl (fun c45 => (s_iload_n (dc kc_X12_areApart_1 7 rfl) rfl <| s_zreturn (dc kc_X12_areApart_1 8 rfl) rfl (by first | exact Or.inl rfl | exact Or.inr rfl | exact bi_01 | assumption) (Nat.zero_le _) (Nat.zero_le _) ?_)) (fun c45 => (s_iload_n (dc kc_X12_areApart_0 30 rfl) rfl <| s_if_eq (tgt := 70) (dc kc_X12_areApart_0 31 rfl) rfl (fun c49 => (k_i (dc kc_X12_areApart_1 3 rfl) rfl <| t_i3 (dc kc_X12_areApart_1 4 rfl) (Nat.le_of_ble_eq_true rfl) rfl <| b_inc4 (dc kc_X12_areApart_1 5 rfl) rfl (Nat.le_of_ble_eq_true rfl) rfl (by first | omega | (simp [up] <;> omega)) (by first | omega | (simp [up] <;> omega)) <| s_goto (tgt := 39) (dc kc_X12_areApart_1 6 rfl) rfl <| ?_)) (fun c49 => (s_iload_n (dc kc_X12_areApart_0 32 rfl) rfl <| r_aload_n (dc kc_X12_areApart_0 33 rfl) rfl <| s_getA (dc kc_X12_areApart_0 34 rfl) fl_X12_23 (ly_80_6 hL) <| s_iload (dc kc_X12_areApart_0 35 rfl) rfl <| s_iaload (dc kc_X12_areApart_0 36 rfl) rfl (by first | omega | (simp [up] <;> omega)) (by first | omega | (simp [up] <;> omega)) <| s_ishr (dc kc_X12_areApart_0 37 rfl) <| k_i (dc kc_X12_areApart_0 38 rfl) rfl <| s_iand (dc kc_X12_areApart_0 39 rfl) <| s_if_ne (tgt := 70) (dc kc_X12_areApart_1 0 rfl) rfl (fun c63 => (k_i (dc kc_X12_areApart_1 3 rfl) rfl <| t_i3 (dc kc_X12_areApart_1 4 rfl) (Nat.le_of_ble_eq_true rfl) rfl <| b_inc4 (dc kc_X12_areApart_1 5 rfl) rfl (Nat.le_of_ble_eq_true rfl) rfl (by first | omega | (simp [up] <;> omega)) (by first | omega | (simp [up] <;> omega)) <| s_goto (tgt := 39) (dc kc_X12_areApart_1 6 rfl) rfl <| ?_)) (fun c63 => (k_i (dc kc_X12_areApart_1 1 rfl) rfl <| s_goto (tgt := 71) (dc kc_X12_areApart_1 2 rfl) rfl <| t_i3 (dc kc_X12_areApart_1 4 rfl) (Nat.le_of_ble_eq_true rfl) rfl <| b_inc4 (dc kc_X12_areApart_1 5 rfl) rfl (Nat.le_of_ble_eq_true rfl) rfl (by first | omega | (simp [up] <;> omega)) (by first | omega | (simp [up] <;> omega)) <| s_goto (tgt := 39) (dc kc_X12_areApart_1 6 rfl) rfl <| ?_))))))
    · exfalso; omega
    · exact hnext _ (by rw [bi_f]; intro z; rw [bi_eq0] at c49; exact c49 z.1)
    · exact hnext _ (by rw [bi_f]; intro z; exact c63 (hbit.mpr z.2))
    · exact hnext _ (by rw [bi_t]; rw [bi_ne0] at c49; exact ⟨c49, hbit.mp c63⟩)
  · refine s_iload (dc kc_X12_areApart_0 26 rfl) rfl <| r_aload_n (dc kc_X12_areApart_0 27 rfl) rfl <| s_getI (dc kc_X12_areApart_0 28 rfl) fl_X12_111 <| s_icmp_ge (tgt := 78) (dc kc_X12_areApart_0 29 rfl) rfl (fun c45 => (s_iload_n (dc kc_X12_areApart_1 7 rfl) rfl <| s_zreturn (dc kc_X12_areApart_1 8 rfl) rfl (by first | exact Or.inl rfl | exact Or.inr rfl | exact bi_01 | assumption) (Nat.zero_le _) (Nat.zero_le _) ?_)) (fun c45 => (?_))
    · rw [List.take_of_length_le (by omega)]; exact hQ
    · exfalso; omega
theorem t_areApart (hL : Lay G mr) {mi : MI} {o : Int} (hc : VC (cel mi)) (h0 : 0 ≤ o) (h1 : o < 3) {W : List Int} (hW : ∀ x ∈ W, 0 ≤ x ∧ x ≤ 5) (hl : W.length ≤ 6) (h7 : mi 0 80 7 = W.length) (hA : Arr (mi 0 85) W) (hQ : ∀ mi', Ch pW mi mi' → Q (vI (bi (apart W (way (cel mi) o) = true))) mi' n mr) : Tx (d+3) mt_X12_areApart [vR (some (0, 80)), vI o] mi n mr Q := by
  refine tx_intro (ls := [vR (some (0, 80)), vI o, vX 0, vX 0, vX 0]) om_X12_areApart rfl (Nat.le_of_ble_eq_true rfl) ?_
  refine k_i (dc kc_X12_areApart_0 0 rfl) rfl <| t_i2 (dc kc_X12_areApart_0 1 rfl) (Nat.le_of_ble_eq_true rfl) rfl <| k_i (dc kc_X12_areApart_0 2 rfl) rfl <| t_i3 (dc kc_X12_areApart_0 3 rfl) (Nat.le_of_ble_eq_true rfl) rfl <| ?_
  refine apart_loop1 hL hl hW h7 hA (fun m i hm => ?_) 0 (Nat.zero_le _) 0 Bm.nil
  refine r_aload_n (dc kc_X12_areApart_0 19 rfl) rfl <| s_iload_n (dc kc_X12_areApart_0 20 rfl) rfl <| c_v1 (dc kc_X12_areApart_0 21 rfl) cl_X12_124 rfl (Nat.le_of_ble_eq_true rfl) (Nat.zero_le _) (Nat.zero_le _) ?_
  refine t_findWay hL hc h0 h1 (fun mi1 g1 g2 g3 g4 => ?_)
  refine k_i (dc kc_X12_areApart_0 22 rfl) rfl <| t_i3 (dc kc_X12_areApart_0 23 rfl) (Nat.le_of_ble_eq_true rfl) rfl <| k_i (dc kc_X12_areApart_0 24 rfl) rfl <| t_i4 (dc kc_X12_areApart_0 25 rfl) (Nat.le_of_ble_eq_true rfl) rfl <| ?_
  exact apart_loop2 hL hm (way_len _ _) (way_rg hc h0 h1) g2 g4 (hQ _ g1) 0 (Nat.zero_le _)
theorem t_doesHold (hL : Lay G mr) {mi : MI} {l : Int} (hc : VC (cel mi)) (h0 : 0 ≤ l) (h1 : l < 12) (hw : WfLaw (mi 0 81) l) (hQ : ∀ mi', Ch pE mi mi' → Q (vI (valA (cel mi) (lawC (mi 0 81) l))) mi' n mr) : Tx (d+6) mt_X12_doesHold [vR (some (0, 80)), vI l] mi n mr Q := by
  refine tx_intro (ls := [vR (some (0, 80)), vI l, vX 0]) om_X12_doesHold rfl (Nat.le_of_ble_eq_true rfl) ?_
  refine s_rngf (g := 0) (j := 80) (k0 := 9) rfl (by decide) (by decide) rfl (by simp) (fun hrg => ?_)
  obtain ⟨L0, hB⟩ := Bm.ex hrg
  have hlaw := law_ev hc hw.2.2.2
  rcases hw.cs with ⟨e, ec, hs⟩ | ⟨hn, hr, hk⟩
  · refine k_s (dc kc_X12_doesHold_0 0 rfl) rfl <| k_b (dc kc_X12_doesHold_0 1 rfl) rfl <| s_iload_n (dc kc_X12_doesHold_0 2 rfl) rfl <| b_imul (dc kc_X12_doesHold_0 3 rfl) (by first | omega | (simp [up] <;> omega)) (by first | omega | (simp [up] <;> omega)) <| b_iadd (dc kc_X12_doesHold_0 4 rfl) (by first | omega | (simp [up] <;> omega)) (by first | omega | (simp [up] <;> omega)) <| t_i2 (dc kc_X12_doesHold_0 5 rfl) (Nat.le_of_ble_eq_true rfl) rfl <| r_aload_n (dc kc_X12_doesHold_0 6 rfl) rfl <| s_getA (dc kc_X12_doesHold_0 7 rfl) fl_X12_7 (ly_80_2 hL) <| s_iload_n (dc kc_X12_doesHold_0 8 rfl) rfl <| s_iaload (dc kc_X12_doesHold_0 9 rfl) rfl (by first | omega | (simp [up] <;> omega)) (by first | omega | (simp [up] <;> omega)) <| k_i (dc kc_X12_doesHold_0 10 rfl) rfl <| s_icmp_ne (tgt := 52) (dc kc_X12_doesHold_0 11 rfl) rfl (fun c16 => (?_)) (fun c16 => (r_aload_n (dc kc_X12_doesHold_0 12 rfl) rfl <| k_s (dc kc_X12_doesHold_0 13 rfl) rfl <| r_aload_n (dc kc_X12_doesHold_0 14 rfl) rfl <| s_getA (dc kc_X12_doesHold_0 15 rfl) fl_X12_7 (ly_80_2 hL) <| s_iload_n (dc kc_X12_doesHold_0 16 rfl) rfl <| k_i (dc kc_X12_doesHold_0 17 rfl) rfl <| b_iadd (dc kc_X12_doesHold_0 18 rfl) (by first | omega | (simp [up] <;> omega)) (by first | omega | (simp [up] <;> omega)) <| s_iaload (dc kc_X12_doesHold_0 19 rfl) rfl (by first | omega | (simp [up] <;> omega)) (by first | omega | (simp [up] <;> omega)) <| r_aload_n (dc kc_X12_doesHold_0 20 rfl) rfl <| s_getA (dc kc_X12_doesHold_0 21 rfl) fl_X12_7 (ly_80_2 hL) <| s_iload_n (dc kc_X12_doesHold_0 22 rfl) rfl <| k_i (dc kc_X12_doesHold_0 23 rfl) rfl <| b_iadd (dc kc_X12_doesHold_0 24 rfl) (by first | omega | (simp [up] <;> omega)) (by first | omega | (simp [up] <;> omega)) <| s_iaload (dc kc_X12_doesHold_0 25 rfl) rfl (by first | omega | (simp [up] <;> omega)) (by first | omega | (simp [up] <;> omega)) <| c_v3r (dc kc_X12_doesHold_0 26 rfl) cl_X12_356 rfl (Nat.le_of_ble_eq_true rfl) (Nat.zero_le _) (Nat.zero_le _) ?_))
    · exfalso; omega
    · refine t_reckon hL (t := 2) (Or.inl rfl) hs.1 hs.2.1 hs.2.2 hc (by rw [← ec]; exact hw.2.2.2.1) hB (fun mi1 v g1 g2 => ?_)
      rw [← ec] at g2
      have ev : v = valA (cel mi) (lawC (mi 0 81) l) := by
        rcases g2 with ⟨z, _⟩ | ⟨rd, z, _⟩
        · rw [hlaw.1] at z; cases z
        · rw [hlaw.1] at z; cases z; rfl
      subst ev
      refine k_i (dc kc_X12_doesHold_0 27 rfl) rfl <| s_icmp_ne (tgt := 50) (dc kc_X12_doesHold_0 28 rfl) rfl (fun c43 => (k_i (dc kc_X12_doesHold_0 31 rfl) rfl <| s_zreturn (dc kc_X12_doesHold_0 32 rfl) rfl (by first | exact Or.inl rfl | exact Or.inr rfl | exact bi_01 | assumption) (Nat.zero_le _) (Nat.zero_le _) ?_)) (fun c43 => (k_i (dc kc_X12_doesHold_0 29 rfl) rfl <| s_goto (tgt := 51) (dc kc_X12_doesHold_0 30 rfl) rfl <| s_zreturn (dc kc_X12_doesHold_0 32 rfl) rfl (by first | exact Or.inl rfl | exact Or.inr rfl | exact bi_01 | assumption) (Nat.zero_le _) (Nat.zero_le _) ?_))
      · have := hQ mi1 g1
        rw [show valA (cel mi) (lawC (mi 0 81) l) = 0 by have := hlaw.2.1; omega] at this
        exact this
      · have := hQ mi1 g1
        rw [c43] at this
        exact this
  · have hval := hlaw.1 []
    refine k_s (dc kc_X12_doesHold_0 0 rfl) rfl <| k_b (dc kc_X12_doesHold_0 1 rfl) rfl <| s_iload_n (dc kc_X12_doesHold_0 2 rfl) rfl <| b_imul (dc kc_X12_doesHold_0 3 rfl) (by first | omega | (simp [up] <;> omega)) (by first | omega | (simp [up] <;> omega)) <| b_iadd (dc kc_X12_doesHold_0 4 rfl) (by first | omega | (simp [up] <;> omega)) (by first | omega | (simp [up] <;> omega)) <| t_i2 (dc kc_X12_doesHold_0 5 rfl) (Nat.le_of_ble_eq_true rfl) rfl <| r_aload_n (dc kc_X12_doesHold_0 6 rfl) rfl <| s_getA (dc kc_X12_doesHold_0 7 rfl) fl_X12_7 (ly_80_2 hL) <| s_iload_n (dc kc_X12_doesHold_0 8 rfl) rfl <| s_iaload (dc kc_X12_doesHold_0 9 rfl) rfl (by first | omega | (simp [up] <;> omega)) (by first | omega | (simp [up] <;> omega)) <| k_i (dc kc_X12_doesHold_0 10 rfl) rfl <| s_icmp_ne (tgt := 52) (dc kc_X12_doesHold_0 11 rfl) rfl (fun c16 => (r_aload_n (dc kc_X12_doesHold_0 33 rfl) rfl <| r_aload_n (dc kc_X12_doesHold_0 34 rfl) rfl <| s_getA (dc kc_X12_doesHold_0 35 rfl) fl_X12_7 (ly_80_2 hL) <| s_iload_n (dc kc_X12_doesHold_0 36 rfl) rfl <| k_i (dc kc_X12_doesHold_0 37 rfl) rfl <| b_iadd (dc kc_X12_doesHold_0 38 rfl) (by first | omega | (simp [up] <;> omega)) (by first | omega | (simp [up] <;> omega)) <| s_iaload (dc kc_X12_doesHold_0 39 rfl) rfl (by first | omega | (simp [up] <;> omega)) (by first | omega | (simp [up] <;> omega)) <| c_v1 (dc kc_X12_doesHold_1 0 rfl) cl_X12_124 rfl (Nat.le_of_ble_eq_true rfl) (Nat.zero_le _) (Nat.zero_le _) ?_)) (fun c16 => (?_))
    · refine t_findWay hL hc hr.1 (by omega) (fun mi1 g1 g2 g3 g4 => ?_)
      have hrow : mi1 0 81 = mi 0 81 := g1.row (fun _ => rfl)
      have hcel : cel mi1 = cel mi := by unfold cel; rw [hrow]
      have gE := g1.mono pW_pE
      have hWr := way_rg hc hr.1 (h := mi 0 81 (2046 + 10 * l + 1)) (by omega)
      rcases hk with ⟨e, ec⟩ | ⟨e, ec⟩ | ⟨e, ec⟩ | ⟨e, ec, hr2⟩
      · rw [ec] at hval
        have hv : valA (cel mi) (lawC (mi 0 81) l) = bi (wend (cel mi) (mi 0 81 (2046 + 10 * l + 1)) = -1) := by rw [ec]; rfl
        have he1 : mi1 0 81 (2046 + 10 * l) = 0 := by rw [hrow]; exact e
        have h01 : mi1 0 80 8 = 0 ∨ mi1 0 80 8 = 1 := by rw [g3]; exact bi_01
        refine r_aload_n (dc kc_X12_doesHold_1 1 rfl) rfl <| s_getA (dc kc_X12_doesHold_1 2 rfl) fl_X12_7 (ly_80_2 hL) <| s_iload_n (dc kc_X12_doesHold_1 3 rfl) rfl <| s_iaload (dc kc_X12_doesHold_1 4 rfl) rfl (by first | omega | (simp [up] <;> omega)) (by first | omega | (simp [up] <;> omega)) <| s_tabC (k0 := 0) (tgt := 96) (dc kc_X12_doesHold_1 5 rfl) ?_ rfl rfl rfl <| r_aload_n (dc kc_X12_doesHold_1 6 rfl) rfl <| s_getZ (dc kc_X12_doesHold_1 7 rfl) fl_X12_117 <| s_zreturn (dc kc_X12_doesHold_1 8 rfl) rfl (by first | exact Or.inl rfl | exact Or.inr rfl | exact bi_01 | assumption) (Nat.zero_le _) (Nat.zero_le _) ?_
        · exact he1
        · rw [g3, ← hv]; exact hQ _ gE
      · have hv : valA (cel mi) (lawC (mi 0 81) l) = bi (twin (cel mi) (-1) (way (cel mi) (mi 0 81 (2046 + 10 * l + 1))) = true) := by rw [ec]; rfl
        have he1 : mi1 0 81 (2046 + 10 * l) = 1 := by rw [hrow]; exact e
        refine r_aload_n (dc kc_X12_doesHold_1 1 rfl) rfl <| s_getA (dc kc_X12_doesHold_1 2 rfl) fl_X12_7 (ly_80_2 hL) <| s_iload_n (dc kc_X12_doesHold_1 3 rfl) rfl <| s_iaload (dc kc_X12_doesHold_1 4 rfl) rfl (by first | omega | (simp [up] <;> omega)) (by first | omega | (simp [up] <;> omega)) <| s_tabC (k0 := 1) (tgt := 101) (dc kc_X12_doesHold_1 5 rfl) ?_ rfl rfl rfl <| r_aload_n (dc kc_X12_doesHold_1 9 rfl) rfl <| c_v0r (dc kc_X12_doesHold_1 10 rfl) cl_X12_359 rfl (Nat.le_of_ble_eq_true rfl) (Nat.zero_le _) (Nat.zero_le _) ?_
        · exact he1
        · refine t_isTwin hL (by rw [hcel]; exact hc) hWr (way_len _ _) g2 g4 ?_
          rw [hcel]
          refine s_zreturn (dc kc_X12_doesHold_1 11 rfl) rfl (by first | exact Or.inl rfl | exact Or.inr rfl | exact bi_01 | assumption) (Nat.zero_le _) (Nat.zero_le _) ?_
          rw [← hv]; exact hQ _ gE
      · have hv : valA (cel mi) (lawC (mi 0 81) l) = bi (rise (cel mi) 0 (way (cel mi) (mi 0 81 (2046 + 10 * l + 1))) = true) := by rw [ec]; rfl
        have he1 : mi1 0 81 (2046 + 10 * l) = 2 := by rw [hrow]; exact e
        refine r_aload_n (dc kc_X12_doesHold_1 1 rfl) rfl <| s_getA (dc kc_X12_doesHold_1 2 rfl) fl_X12_7 (ly_80_2 hL) <| s_iload_n (dc kc_X12_doesHold_1 3 rfl) rfl <| s_iaload (dc kc_X12_doesHold_1 4 rfl) rfl (by first | omega | (simp [up] <;> omega)) (by first | omega | (simp [up] <;> omega)) <| s_tabC (k0 := 2) (tgt := 106) (dc kc_X12_doesHold_1 5 rfl) ?_ rfl rfl rfl <| r_aload_n (dc kc_X12_doesHold_1 12 rfl) rfl <| c_v0r (dc kc_X12_doesHold_1 13 rfl) cl_X12_362 rfl (Nat.le_of_ble_eq_true rfl) (Nat.zero_le _) (Nat.zero_le _) ?_
        · exact he1
        · refine t_isRising hL (by rw [hcel]; exact hc) hWr (way_len _ _) g2 g4 ?_
          rw [hcel]
          refine s_zreturn (dc kc_X12_doesHold_1 14 rfl) rfl (by first | exact Or.inl rfl | exact Or.inr rfl | exact bi_01 | assumption) (Nat.zero_le _) (Nat.zero_le _) ?_
          rw [← hv]; exact hQ _ gE
      · have hv : valA (cel mi) (lawC (mi 0 81) l) = bi (apart (way (cel mi) (mi 0 81 (2046 + 10 * l + 1))) (way (cel mi) (mi 0 81 (2046 + 10 * l + 2))) = true) := by
          rw [ec, show valA (cel mi) [(25, mi 0 81 (2046 + 10 * l + 1)), (3, mi 0 81 (2046 + 10 * l + 2))] = bi (bAnd (msk (way (cel mi) (mi 0 81 (2046 + 10 * l + 1)))) (msk (way (cel mi) (mi 0 81 (2046 + 10 * l + 2)))) = 0) from rfl]
          exact bi_congr (apart_is hWr (way_rg hc hr2.1 (by omega)))
        have he1 : mi1 0 81 (2046 + 10 * l) = 3 := by rw [hrow]; exact e
        have he2 : mi1 0 81 (2046 + 10 * l + 2) = mi 0 81 (2046 + 10 * l + 2) := by rw [hrow]
        refine r_aload_n (dc kc_X12_doesHold_1 1 rfl) rfl <| s_getA (dc kc_X12_doesHold_1 2 rfl) fl_X12_7 (ly_80_2 hL) <| s_iload_n (dc kc_X12_doesHold_1 3 rfl) rfl <| s_iaload (dc kc_X12_doesHold_1 4 rfl) rfl (by first | omega | (simp [up] <;> omega)) (by first | omega | (simp [up] <;> omega)) <| s_tabD (tgt := 111) (dc kc_X12_doesHold_1 5 rfl) ?_ rfl <| r_aload_n (dc kc_X12_doesHold_1 15 rfl) rfl <| r_aload_n (dc kc_X12_doesHold_1 16 rfl) rfl <| s_getA (dc kc_X12_doesHold_1 17 rfl) fl_X12_7 (ly_80_2 hL) <| s_iload_n (dc kc_X12_doesHold_1 18 rfl) rfl <| k_i (dc kc_X12_doesHold_1 19 rfl) rfl <| b_iadd (dc kc_X12_doesHold_1 20 rfl) (by first | omega | (simp [up] <;> omega)) (by first | omega | (simp [up] <;> omega)) <| s_iaload (dc kc_X12_doesHold_1 21 rfl) rfl (by first | omega | (simp [up] <;> omega)) (by first | omega | (simp [up] <;> omega)) <| c_v1r (dc kc_X12_doesHold_1 22 rfl) cl_X12_365 rfl (Nat.le_of_ble_eq_true rfl) (Nat.zero_le _) (Nat.zero_le _) ?_
        · omega
        · rw [he2]
          refine t_areApart hL (by rw [hcel]; exact hc) hr2.1 (by omega) hWr (way_len _ _) g2 g4 (fun mi2 g5 => ?_)
          rw [hcel]
          refine s_zreturn (dc kc_X12_doesHold_1 23 rfl) rfl (by first | exact Or.inl rfl | exact Or.inr rfl | exact bi_01 | assumption) (Nat.zero_le _) (Nat.zero_le _) ?_
          rw [← hv]; exact hQ _ (gE.tr (g5.mono pW_pE))
    · exfalso; omega
theorem t_askedOf (hL : Lay G mr) {mi : MI} {l : Int} (hc : VC (cel mi)) (h0 : 0 ≤ l) (h1 : l < 12) (hw : WfLaw (mi 0 81) l) (hQ : ∀ mi' m, Ch pE mi mi' → Bm m (askA (cel mi) (lawC (mi 0 81) l)) → Q (vI m) mi' n mr) : Tx (d+6) mt_X12_askedOf [vR (some (0, 80)), vI l] mi n mr Q := by
  refine tx_intro (ls := [vR (some (0, 80)), vI l, vX 0]) om_X12_askedOf rfl (Nat.le_of_ble_eq_true rfl) ?_
  have hlaw := law_ev hc hw.2.2.2
  have hrow0 : up mi 0 80 9 0 0 81 = mi 0 81 := up_j (by decide)
  have hcel0 : cel (up mi 0 80 9 0) = cel mi := by unfold cel; rw [hrow0]
  have hB : Bm (up mi 0 80 9 0 0 80 9) [] := by rw [up_at]; exact Bm.nil
  rcases hw.cs with ⟨e, ec, hs⟩ | ⟨hn, hr, hk⟩
  · refine k_s (dc kc_X12_askedOf_0 0 rfl) rfl <| k_b (dc kc_X12_askedOf_0 1 rfl) rfl <| s_iload_n (dc kc_X12_askedOf_0 2 rfl) rfl <| b_imul (dc kc_X12_askedOf_0 3 rfl) (by first | omega | (simp [up] <;> omega)) (by first | omega | (simp [up] <;> omega)) <| b_iadd (dc kc_X12_askedOf_0 4 rfl) (by first | omega | (simp [up] <;> omega)) (by first | omega | (simp [up] <;> omega)) <| t_i2 (dc kc_X12_askedOf_0 5 rfl) (Nat.le_of_ble_eq_true rfl) rfl <| r_aload_n (dc kc_X12_askedOf_0 6 rfl) rfl <| k_i (dc kc_X12_askedOf_0 7 rfl) rfl <| s_putI (dc kc_X12_askedOf_0 8 rfl) fl_X12_121 <| r_aload_n (dc kc_X12_askedOf_0 9 rfl) rfl <| s_getA (dc kc_X12_askedOf_0 10 rfl) fl_X12_7 (ly_80_2 hL) <| s_iload_n (dc kc_X12_askedOf_0 11 rfl) rfl <| s_iaload (dc kc_X12_askedOf_0 12 rfl) rfl (by first | omega | (simp [up] <;> omega)) (by first | omega | (simp [up] <;> omega)) <| k_i (dc kc_X12_askedOf_0 13 rfl) rfl <| s_icmp_ne (tgt := 51) (dc kc_X12_askedOf_0 14 rfl) rfl (fun c21 => (?_)) (fun c21 => (r_aload_n (dc kc_X12_askedOf_0 15 rfl) rfl <| k_s (dc kc_X12_askedOf_0 16 rfl) rfl <| r_aload_n (dc kc_X12_askedOf_0 17 rfl) rfl <| s_getA (dc kc_X12_askedOf_0 18 rfl) fl_X12_7 (ly_80_2 hL) <| s_iload_n (dc kc_X12_askedOf_0 19 rfl) rfl <| k_i (dc kc_X12_askedOf_0 20 rfl) rfl <| b_iadd (dc kc_X12_askedOf_0 21 rfl) (by first | omega | (simp [up] <;> omega)) (by first | omega | (simp [up] <;> omega)) <| s_iaload (dc kc_X12_askedOf_0 22 rfl) rfl (by first | omega | (simp [up] <;> omega)) (by first | omega | (simp [up] <;> omega)) <| r_aload_n (dc kc_X12_askedOf_0 23 rfl) rfl <| s_getA (dc kc_X12_askedOf_0 24 rfl) fl_X12_7 (ly_80_2 hL) <| s_iload_n (dc kc_X12_askedOf_0 25 rfl) rfl <| k_i (dc kc_X12_askedOf_0 26 rfl) rfl <| b_iadd (dc kc_X12_askedOf_0 27 rfl) (by first | omega | (simp [up] <;> omega)) (by first | omega | (simp [up] <;> omega)) <| s_iaload (dc kc_X12_askedOf_0 28 rfl) rfl (by first | omega | (simp [up] <;> omega)) (by first | omega | (simp [up] <;> omega)) <| c_v3r (dc kc_X12_askedOf_0 29 rfl) cl_X12_356 rfl (Nat.le_of_ble_eq_true rfl) (Nat.zero_le _) (Nat.zero_le _) ?_))
    · exfalso; rw [hrow0] at c21; omega
    · rw [hrow0]
      refine t_reckon hL (t := 2) (Or.inl rfl) hs.1 hs.2.1 hs.2.2 (by rw [hcel0]; exact hc) (by rw [hrow0, ← ec]; exact hw.2.2.2.1) hB (fun mi1 v g1 g2 => ?_)
      rw [hcel0, hrow0, ← ec] at g2
      refine s_pop (dc kc_X12_askedOf_0 30 rfl) rfl <| s_goto (tgt := 117) (dc kc_X12_askedOf_0 31 rfl) rfl <| r_aload_n (dc kc_X12_askedOf_1 34 rfl) rfl <| s_getI (dc kc_X12_askedOf_1 35 rfl) fl_X12_121 <| s_ireturn (dc kc_X12_askedOf_1 36 rfl) rfl (Nat.zero_le _) (Nat.zero_le _) ?_
      rcases g2 with ⟨z, _⟩ | ⟨rd, z, g3, _⟩
      · rw [hlaw.1] at z; cases z
      · rw [hlaw.1] at z; cases z
        rw [List.append_nil] at g3
        exact hQ _ _ ((Ch.rf.up rfl).tr g1) g3
  · have fin : ∀ b k, b = bi (mi 0 81 (2046 + 10 * l) = 1) → k = bi (mi 0 81 (2046 + 10 * l) = 2) → Tx (d+5) mt_X12_readWay [vR (some (0, 80)), vI (mi 0 81 (2046 + 10 * l + 1)), vI b, vI k] (up mi 0 80 9 0) n mr fun v mi' n' mr' => Run (d+6) mt_X12_askedOf Q (n', mr', 0, 0) mi' 93 [vR (some (0, 80)), vI l, vI (2046 + 10 * l)] [] := by
      intro b k eb ek
      refine t_readWay hL (by rw [hcel0]; exact hc) hr.1 (by omega) hB (fun mi1 g1 g2 g3 g4 g5 => ?_)
      rw [hcel0, List.append_nil] at g5
      have hrow : mi1 0 81 = mi 0 81 := by rw [g1.row (fun _ => rfl), hrow0]
      have hcel : cel mi1 = cel mi := by unfold cel; rw [hrow]
      have gE : Ch pE mi mi1 := (Ch.rf.up rfl).tr (g1.mono pR_pE)
      rcases hk with ⟨e, ec⟩ | ⟨e, ec⟩ | ⟨e, ec⟩ | ⟨e, ec, hr2⟩
      · rw [bi_f (by omega)] at eb ek; subst eb; subst ek
        refine r_aload_n (dc kc_X12_askedOf_1 18 rfl) rfl <| s_getA (dc kc_X12_askedOf_1 19 rfl) fl_X12_7 (ly_80_2 hL) <| s_iload_n (dc kc_X12_askedOf_1 20 rfl) rfl <| s_iaload (dc kc_X12_askedOf_1 21 rfl) rfl (by first | omega | (simp [up] <;> omega)) (by first | omega | (simp [up] <;> omega)) <| k_i (dc kc_X12_askedOf_1 22 rfl) rfl <| s_icmp_ne (tgt := 117) (dc kc_X12_askedOf_1 23 rfl) rfl (fun c100 => (r_aload_n (dc kc_X12_askedOf_1 34 rfl) rfl <| s_getI (dc kc_X12_askedOf_1 35 rfl) fl_X12_121 <| s_ireturn (dc kc_X12_askedOf_1 36 rfl) rfl (Nat.zero_le _) (Nat.zero_le _) ?_)) (fun c100 => (?_))
        · refine hQ _ _ gE ?_
          rw [ec, show askA (cel mi) [(0, mi 0 81 (2046 + 10 * l + 1))] = askW (cel mi) (mi 0 81 (2046 + 10 * l + 1)) 0 0 ++ [] from rfl, List.append_nil]; exact g5
        · exfalso; rw [hrow] at c100; omega
      · rw [bi_t e] at eb; rw [bi_f (by omega)] at ek; subst eb; subst ek
        refine r_aload_n (dc kc_X12_askedOf_1 18 rfl) rfl <| s_getA (dc kc_X12_askedOf_1 19 rfl) fl_X12_7 (ly_80_2 hL) <| s_iload_n (dc kc_X12_askedOf_1 20 rfl) rfl <| s_iaload (dc kc_X12_askedOf_1 21 rfl) rfl (by first | omega | (simp [up] <;> omega)) (by first | omega | (simp [up] <;> omega)) <| k_i (dc kc_X12_askedOf_1 22 rfl) rfl <| s_icmp_ne (tgt := 117) (dc kc_X12_askedOf_1 23 rfl) rfl (fun c100 => (r_aload_n (dc kc_X12_askedOf_1 34 rfl) rfl <| s_getI (dc kc_X12_askedOf_1 35 rfl) fl_X12_121 <| s_ireturn (dc kc_X12_askedOf_1 36 rfl) rfl (Nat.zero_le _) (Nat.zero_le _) ?_)) (fun c100 => (?_))
        · refine hQ _ _ gE ?_
          rw [ec, show askA (cel mi) [(1, mi 0 81 (2046 + 10 * l + 1))] = askW (cel mi) (mi 0 81 (2046 + 10 * l + 1)) 1 0 ++ [] from rfl, List.append_nil]; exact g5
        · exfalso; rw [hrow] at c100; omega
      · rw [bi_f (by omega)] at eb; rw [bi_t e] at ek; subst eb; subst ek
        refine r_aload_n (dc kc_X12_askedOf_1 18 rfl) rfl <| s_getA (dc kc_X12_askedOf_1 19 rfl) fl_X12_7 (ly_80_2 hL) <| s_iload_n (dc kc_X12_askedOf_1 20 rfl) rfl <| s_iaload (dc kc_X12_askedOf_1 21 rfl) rfl (by first | omega | (simp [up] <;> omega)) (by first | omega | (simp [up] <;> omega)) <| k_i (dc kc_X12_askedOf_1 22 rfl) rfl <| s_icmp_ne (tgt := 117) (dc kc_X12_askedOf_1 23 rfl) rfl (fun c100 => (r_aload_n (dc kc_X12_askedOf_1 34 rfl) rfl <| s_getI (dc kc_X12_askedOf_1 35 rfl) fl_X12_121 <| s_ireturn (dc kc_X12_askedOf_1 36 rfl) rfl (Nat.zero_le _) (Nat.zero_le _) ?_)) (fun c100 => (?_))
        · refine hQ _ _ gE ?_
          rw [ec, show askA (cel mi) [(2, mi 0 81 (2046 + 10 * l + 1))] = askW (cel mi) (mi 0 81 (2046 + 10 * l + 1)) 0 1 ++ [] from rfl, List.append_nil]; exact g5
        · exfalso; rw [hrow] at c100; omega
      · rw [bi_f (by omega)] at eb ek; subst eb; subst ek
        refine r_aload_n (dc kc_X12_askedOf_1 18 rfl) rfl <| s_getA (dc kc_X12_askedOf_1 19 rfl) fl_X12_7 (ly_80_2 hL) <| s_iload_n (dc kc_X12_askedOf_1 20 rfl) rfl <| s_iaload (dc kc_X12_askedOf_1 21 rfl) rfl (by first | omega | (simp [up] <;> omega)) (by first | omega | (simp [up] <;> omega)) <| k_i (dc kc_X12_askedOf_1 22 rfl) rfl <| s_icmp_ne (tgt := 117) (dc kc_X12_askedOf_1 23 rfl) rfl (fun c100 => (?_)) (fun c100 => (r_aload_n (dc kc_X12_askedOf_1 24 rfl) rfl <| r_aload_n (dc kc_X12_askedOf_1 25 rfl) rfl <| s_getA (dc kc_X12_askedOf_1 26 rfl) fl_X12_7 (ly_80_2 hL) <| s_iload_n (dc kc_X12_askedOf_1 27 rfl) rfl <| k_i (dc kc_X12_askedOf_1 28 rfl) rfl <| b_iadd (dc kc_X12_askedOf_1 29 rfl) (by first | omega | (simp [up] <;> omega)) (by first | omega | (simp [up] <;> omega)) <| s_iaload (dc kc_X12_askedOf_1 30 rfl) rfl (by first | omega | (simp [up] <;> omega)) (by first | omega | (simp [up] <;> omega)) <| k_i (dc kc_X12_askedOf_1 31 rfl) rfl <| k_i (dc kc_X12_askedOf_1 32 rfl) rfl <| c_v3 (dc kc_X12_askedOf_1 33 rfl) cl_X12_349 rfl (Nat.le_of_ble_eq_true rfl) (Nat.zero_le _) (Nat.zero_le _) ?_))
        · exfalso; rw [hrow] at c100; omega
        · rw [hrow]
          refine t_readWay hL (by rw [hcel]; exact hc) hr2.1 (by omega) g5 (fun mi2 q1 q2 q3 q4 q5 => ?_)
          refine r_aload_n (dc kc_X12_askedOf_1 34 rfl) rfl <| s_getI (dc kc_X12_askedOf_1 35 rfl) fl_X12_121 <| s_ireturn (dc kc_X12_askedOf_1 36 rfl) rfl (Nat.zero_le _) (Nat.zero_le _) ?_
          refine hQ _ _ (gE.tr (q1.mono pR_pE)) ?_
          rw [ec, show askA (cel mi) [(25, mi 0 81 (2046 + 10 * l + 1)), (3, mi 0 81 (2046 + 10 * l + 2))] = askW (cel mi) (mi 0 81 (2046 + 10 * l + 2)) 0 0 ++ (askW (cel mi) (mi 0 81 (2046 + 10 * l + 1)) 0 0 ++ []) from rfl, List.append_nil]
          rw [hcel] at q5
          exact q5
    refine k_s (dc kc_X12_askedOf_0 0 rfl) rfl <| k_b (dc kc_X12_askedOf_0 1 rfl) rfl <| s_iload_n (dc kc_X12_askedOf_0 2 rfl) rfl <| b_imul (dc kc_X12_askedOf_0 3 rfl) (by first | omega | (simp [up] <;> omega)) (by first | omega | (simp [up] <;> omega)) <| b_iadd (dc kc_X12_askedOf_0 4 rfl) (by first | omega | (simp [up] <;> omega)) (by first | omega | (simp [up] <;> omega)) <| t_i2 (dc kc_X12_askedOf_0 5 rfl) (Nat.le_of_ble_eq_true rfl) rfl <| r_aload_n (dc kc_X12_askedOf_0 6 rfl) rfl <| k_i (dc kc_X12_askedOf_0 7 rfl) rfl <| s_putI (dc kc_X12_askedOf_0 8 rfl) fl_X12_121 <| r_aload_n (dc kc_X12_askedOf_0 9 rfl) rfl <| s_getA (dc kc_X12_askedOf_0 10 rfl) fl_X12_7 (ly_80_2 hL) <| s_iload_n (dc kc_X12_askedOf_0 11 rfl) rfl <| s_iaload (dc kc_X12_askedOf_0 12 rfl) rfl (by first | omega | (simp [up] <;> omega)) (by first | omega | (simp [up] <;> omega)) <| k_i (dc kc_X12_askedOf_0 13 rfl) rfl <| s_icmp_ne (tgt := 51) (dc kc_X12_askedOf_0 14 rfl) rfl (fun c21 => (?_)) (fun c21 => (?_))
    · refine r_aload_n (dc kc_X12_askedOf_0 32 rfl) rfl <| r_aload_n (dc kc_X12_askedOf_0 33 rfl) rfl <| s_getA (dc kc_X12_askedOf_0 34 rfl) fl_X12_7 (ly_80_2 hL) <| s_iload_n (dc kc_X12_askedOf_0 35 rfl) rfl <| k_i (dc kc_X12_askedOf_0 36 rfl) rfl <| b_iadd (dc kc_X12_askedOf_0 37 rfl) (by first | omega | (simp [up] <;> omega)) (by first | omega | (simp [up] <;> omega)) <| s_iaload (dc kc_X12_askedOf_0 38 rfl) rfl (by first | omega | (simp [up] <;> omega)) (by first | omega | (simp [up] <;> omega)) <| r_aload_n (dc kc_X12_askedOf_0 39 rfl) rfl <| s_getA (dc kc_X12_askedOf_1 0 rfl) fl_X12_7 (ly_80_2 hL) <| s_iload_n (dc kc_X12_askedOf_1 1 rfl) rfl <| s_iaload (dc kc_X12_askedOf_1 2 rfl) rfl (by first | omega | (simp [up] <;> omega)) (by first | omega | (simp [up] <;> omega)) <| k_i (dc kc_X12_askedOf_1 3 rfl) rfl <| s_icmp_ne (tgt := 74) (dc kc_X12_askedOf_1 4 rfl) rfl (fun c67 => (k_i (dc kc_X12_askedOf_1 7 rfl) rfl <| r_aload_n (dc kc_X12_askedOf_1 8 rfl) rfl <| s_getA (dc kc_X12_askedOf_1 9 rfl) fl_X12_7 (ly_80_2 hL) <| s_iload_n (dc kc_X12_askedOf_1 10 rfl) rfl <| s_iaload (dc kc_X12_askedOf_1 11 rfl) rfl (by first | omega | (simp [up] <;> omega)) (by first | omega | (simp [up] <;> omega)) <| k_i (dc kc_X12_askedOf_1 12 rfl) rfl <| s_icmp_ne (tgt := 89) (dc kc_X12_askedOf_1 13 rfl) rfl (fun c82 => (k_i (dc kc_X12_askedOf_1 16 rfl) rfl <| c_v3 (dc kc_X12_askedOf_1 17 rfl) cl_X12_349 rfl (Nat.le_of_ble_eq_true rfl) (Nat.zero_le _) (Nat.zero_le _) ?_)) (fun c82 => (k_i (dc kc_X12_askedOf_1 14 rfl) rfl <| s_goto (tgt := 90) (dc kc_X12_askedOf_1 15 rfl) rfl <| c_v3 (dc kc_X12_askedOf_1 17 rfl) cl_X12_349 rfl (Nat.le_of_ble_eq_true rfl) (Nat.zero_le _) (Nat.zero_le _) ?_)))) (fun c67 => (k_i (dc kc_X12_askedOf_1 5 rfl) rfl <| s_goto (tgt := 75) (dc kc_X12_askedOf_1 6 rfl) rfl <| r_aload_n (dc kc_X12_askedOf_1 8 rfl) rfl <| s_getA (dc kc_X12_askedOf_1 9 rfl) fl_X12_7 (ly_80_2 hL) <| s_iload_n (dc kc_X12_askedOf_1 10 rfl) rfl <| s_iaload (dc kc_X12_askedOf_1 11 rfl) rfl (by first | omega | (simp [up] <;> omega)) (by first | omega | (simp [up] <;> omega)) <| k_i (dc kc_X12_askedOf_1 12 rfl) rfl <| s_icmp_ne (tgt := 89) (dc kc_X12_askedOf_1 13 rfl) rfl (fun c82 => (k_i (dc kc_X12_askedOf_1 16 rfl) rfl <| c_v3 (dc kc_X12_askedOf_1 17 rfl) cl_X12_349 rfl (Nat.le_of_ble_eq_true rfl) (Nat.zero_le _) (Nat.zero_le _) ?_)) (fun c82 => (k_i (dc kc_X12_askedOf_1 14 rfl) rfl <| s_goto (tgt := 90) (dc kc_X12_askedOf_1 15 rfl) rfl <| c_v3 (dc kc_X12_askedOf_1 17 rfl) cl_X12_349 rfl (Nat.le_of_ble_eq_true rfl) (Nat.zero_le _) (Nat.zero_le _) ?_))))
      · rw [hrow0] at c67 c82 ⊢; exact fin _ _ (by rw [bi_f c67]) (by rw [bi_f c82])
      · rw [hrow0] at c67 c82 ⊢; exact fin _ _ (by rw [bi_f c67]) (by rw [bi_t c82])
      · rw [hrow0] at c67 c82 ⊢; exact fin _ _ (by rw [bi_t c67]) (by rw [bi_f c82])
      · rw [hrow0] at c67 c82 ⊢; exact fin _ _ (by rw [bi_t c67]) (by rw [bi_t c82])
    · exfalso; rw [hrow0] at c21; omega
end REF6
