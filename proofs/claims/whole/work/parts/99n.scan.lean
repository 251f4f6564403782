/-! the class: the scan -/
section SCN
variable {d n G : Nat} {mr : MR} {Q : V → MI → Nat → MR → Prop}
theorem u_isLetter {mi : MI} {x : Int} (hQ : Q (vI (bi (97 ≤ x ∧ x ≤ 122))) mi n mr) : Tx (d+1) mt_X0_isLetter [vI x] mi n mr Q := by
  refine tx_intro (ls := [vI x]) om_X0_isLetter rfl (Nat.le_of_ble_eq_true rfl) ?_
  refine s_iload_n (dc kc_X0_isLetter 0 rfl) rfl <| k_b (dc kc_X0_isLetter 1 rfl) rfl <| s_icmp_lt (tgt := 16) (dc kc_X0_isLetter 2 rfl) rfl (fun c3 => (k_i (dc kc_X0_isLetter 8 rfl) rfl <| s_zreturn (dc kc_X0_isLetter 9 rfl) rfl (by first | exact Or.inl rfl | exact Or.inr rfl | exact bi_01 | assumption) (Nat.zero_le _) (Nat.zero_le _) ?_)) (fun c3 => (s_iload_n (dc kc_X0_isLetter 3 rfl) rfl <| k_b (dc kc_X0_isLetter 4 rfl) rfl <| s_icmp_gt (tgt := 16) (dc kc_X0_isLetter 5 rfl) rfl (fun c9 => (k_i (dc kc_X0_isLetter 8 rfl) rfl <| s_zreturn (dc kc_X0_isLetter 9 rfl) rfl (by first | exact Or.inl rfl | exact Or.inr rfl | exact bi_01 | assumption) (Nat.zero_le _) (Nat.zero_le _) ?_)) (fun c9 => (k_i (dc kc_X0_isLetter 6 rfl) rfl <| s_goto (tgt := 17) (dc kc_X0_isLetter 7 rfl) rfl <| s_zreturn (dc kc_X0_isLetter 9 rfl) rfl (by first | exact Or.inl rfl | exact Or.inr rfl | exact bi_01 | assumption) (Nat.zero_le _) (Nat.zero_le _) ?_))))
  all_goals (first | (rw [bi_t (by omega)] at hQ; exact hQ) | (rw [bi_f (by omega)] at hQ; exact hQ))
theorem u_cisDigit {mi : MI} {x : Int} (hQ : Q (vI (bi (48 ≤ x ∧ x ≤ 57))) mi n mr) : Tx (d+1) mt_X0_isDigit [vI x] mi n mr Q := by
  refine tx_intro (ls := [vI x]) om_X0_isDigit rfl (Nat.le_of_ble_eq_true rfl) ?_
  refine s_iload_n (dc kc_X0_isDigit 0 rfl) rfl <| k_b (dc kc_X0_isDigit 1 rfl) rfl <| s_icmp_lt (tgt := 16) (dc kc_X0_isDigit 2 rfl) rfl (fun c3 => (k_i (dc kc_X0_isDigit 8 rfl) rfl <| s_zreturn (dc kc_X0_isDigit 9 rfl) rfl (by first | exact Or.inl rfl | exact Or.inr rfl | exact bi_01 | assumption) (Nat.zero_le _) (Nat.zero_le _) ?_)) (fun c3 => (s_iload_n (dc kc_X0_isDigit 3 rfl) rfl <| k_b (dc kc_X0_isDigit 4 rfl) rfl <| s_icmp_gt (tgt := 16) (dc kc_X0_isDigit 5 rfl) rfl (fun c9 => (k_i (dc kc_X0_isDigit 8 rfl) rfl <| s_zreturn (dc kc_X0_isDigit 9 rfl) rfl (by first | exact Or.inl rfl | exact Or.inr rfl | exact bi_01 | assumption) (Nat.zero_le _) (Nat.zero_le _) ?_)) (fun c9 => (k_i (dc kc_X0_isDigit 6 rfl) rfl <| s_goto (tgt := 17) (dc kc_X0_isDigit 7 rfl) rfl <| s_zreturn (dc kc_X0_isDigit 9 rfl) rfl (by first | exact Or.inl rfl | exact Or.inr rfl | exact bi_01 | assumption) (Nat.zero_le _) (Nat.zero_le _) ?_))))
  all_goals (first | (rw [bi_t (by omega)] at hQ; exact hQ) | (rw [bi_f (by omega)] at hQ; exact hQ))
theorem u_isAlike {mi : MI} {x y : Int} (hQ : Q (vI (bi (((97 ≤ x ∧ x ≤ 122) ∧ 97 ≤ y ∧ y ≤ 122) ∨ ((48 ≤ x ∧ x ≤ 57) ∧ 48 ≤ y ∧ y ≤ 57)))) mi n mr) : Tx (d+2) mt_X0_isAlike [vI x, vI y] mi n mr Q := by
  refine tx_intro (ls := [vI x, vI y]) om_X0_isAlike rfl (Nat.le_of_ble_eq_true rfl) ?_
  refine s_iload_n (dc kc_X0_isAlike 0 rfl) rfl <| c_s1r (dc kc_X0_isAlike 1 rfl) cl_X0_178 rfl (Nat.le_of_ble_eq_true rfl) (Nat.zero_le _) (Nat.zero_le _) <| u_isLetter <| s_if_eqb (tgt := 14) (dc kc_X0_isAlike 2 rfl) rfl (fun c4 => (s_iload_n (dc kc_X0_isAlike 6 rfl) rfl <| c_s1r (dc kc_X0_isAlike 7 rfl) cl_X0_184 rfl (Nat.le_of_ble_eq_true rfl) (Nat.zero_le _) (Nat.zero_le _) <| u_cisDigit <| s_if_eqb (tgt := 32) (dc kc_X0_isAlike 8 rfl) rfl (fun c18 => (k_i (dc kc_X0_isAlike 14 rfl) rfl <| s_zreturn (dc kc_X0_isAlike 15 rfl) rfl (by first | exact Or.inl rfl | exact Or.inr rfl | exact bi_01 | assumption) (Nat.zero_le _) (Nat.zero_le _) ?_)) (fun c18 => (s_iload_n (dc kc_X0_isAlike 9 rfl) rfl <| c_s1r (dc kc_X0_isAlike 10 rfl) cl_X0_184 rfl (Nat.le_of_ble_eq_true rfl) (Nat.zero_le _) (Nat.zero_le _) <| u_cisDigit <| s_if_eqb (tgt := 32) (dc kc_X0_isAlike 11 rfl) rfl (fun c25 => (k_i (dc kc_X0_isAlike 14 rfl) rfl <| s_zreturn (dc kc_X0_isAlike 15 rfl) rfl (by first | exact Or.inl rfl | exact Or.inr rfl | exact bi_01 | assumption) (Nat.zero_le _) (Nat.zero_le _) ?_)) (fun c25 => (k_i (dc kc_X0_isAlike 12 rfl) rfl <| s_goto (tgt := 33) (dc kc_X0_isAlike 13 rfl) rfl <| s_zreturn (dc kc_X0_isAlike 15 rfl) rfl (by first | exact Or.inl rfl | exact Or.inr rfl | exact bi_01 | assumption) (Nat.zero_le _) (Nat.zero_le _) ?_)))))) (fun c4 => (s_iload_n (dc kc_X0_isAlike 3 rfl) rfl <| c_s1r (dc kc_X0_isAlike 4 rfl) cl_X0_178 rfl (Nat.le_of_ble_eq_true rfl) (Nat.zero_le _) (Nat.zero_le _) <| u_isLetter <| s_if_neb (tgt := 28) (dc kc_X0_isAlike 5 rfl) rfl (fun c11 => (k_i (dc kc_X0_isAlike 12 rfl) rfl <| s_goto (tgt := 33) (dc kc_X0_isAlike 13 rfl) rfl <| s_zreturn (dc kc_X0_isAlike 15 rfl) rfl (by first | exact Or.inl rfl | exact Or.inr rfl | exact bi_01 | assumption) (Nat.zero_le _) (Nat.zero_le _) ?_)) (fun c11 => (s_iload_n (dc kc_X0_isAlike 6 rfl) rfl <| c_s1r (dc kc_X0_isAlike 7 rfl) cl_X0_184 rfl (Nat.le_of_ble_eq_true rfl) (Nat.zero_le _) (Nat.zero_le _) <| u_cisDigit <| s_if_eqb (tgt := 32) (dc kc_X0_isAlike 8 rfl) rfl (fun c18 => (k_i (dc kc_X0_isAlike 14 rfl) rfl <| s_zreturn (dc kc_X0_isAlike 15 rfl) rfl (by first | exact Or.inl rfl | exact Or.inr rfl | exact bi_01 | assumption) (Nat.zero_le _) (Nat.zero_le _) ?_)) (fun c18 => (s_iload_n (dc kc_X0_isAlike 9 rfl) rfl <| c_s1r (dc kc_X0_isAlike 10 rfl) cl_X0_184 rfl (Nat.le_of_ble_eq_true rfl) (Nat.zero_le _) (Nat.zero_le _) <| u_cisDigit <| s_if_eqb (tgt := 32) (dc kc_X0_isAlike 11 rfl) rfl (fun c25 => (k_i (dc kc_X0_isAlike 14 rfl) rfl <| s_zreturn (dc kc_X0_isAlike 15 rfl) rfl (by first | exact Or.inl rfl | exact Or.inr rfl | exact bi_01 | assumption) (Nat.zero_le _) (Nat.zero_le _) ?_)) (fun c25 => (k_i (dc kc_X0_isAlike 12 rfl) rfl <| s_goto (tgt := 33) (dc kc_X0_isAlike 13 rfl) rfl <| s_zreturn (dc kc_X0_isAlike 15 rfl) rfl (by first | exact Or.inl rfl | exact Or.inr rfl | exact bi_01 | assumption) (Nat.zero_le _) (Nat.zero_le _) ?_))))))))
  all_goals (first | (rw [bi_t (by omega)] at hQ; exact hQ) | (rw [bi_f (by omega)] at hQ; exact hQ))
theorem u_endOfToken {mi : MI} {f N : Int} (h0 : 0 ≤ f) (h1 : f < N) (hN : N ≤ 400) (hQ : Q (vI (ndE (mi 0 1) N f)) mi n mr) : Tx (d+3) mt_X0_endOfToken [vR (some (0, 1)), vI f, vI N] mi n mr Q := by
  generalize hE : ndE (mi 0 1) N f = E at *
  have fin : ∀ e, f < e → e ≤ N → (∀ j, f < j → j < e → ((97 ≤ mi 0 1 f ∧ mi 0 1 f ≤ 122) ∧ 97 ≤ mi 0 1 j ∧ mi 0 1 j ≤ 122) ∨ ((48 ≤ mi 0 1 f ∧ mi 0 1 f ≤ 57) ∧ 48 ≤ mi 0 1 j ∧ mi 0 1 j ≤ 57)) → (e < N → ¬ (((97 ≤ mi 0 1 f ∧ mi 0 1 f ≤ 122) ∧ 97 ≤ mi 0 1 e ∧ mi 0 1 e ≤ 122) ∨ ((48 ≤ mi 0 1 f ∧ mi 0 1 f ≤ 57) ∧ 48 ≤ mi 0 1 e ∧ mi 0 1 e ≤ 57))) → E = e := fun e e0 e1 hj he => by
    rw [← hE]
    unfold ndE
    by_cases c1 : ltB (mi 0 1 f) = true
    · have z := ltB_t.mp c1
      rw [if_pos c1]
      refine rnE_is _ f e (by omega) (by omega) (fun j j0 j1 => ?_) (fun q w => ?_)
      · by_cases ej : j = f
        · rw [ej]; exact c1
        · have := hj j (by omega) j1
          exact ltB_t.mpr (by omega)
      · have := ltB_t.mp w
        exact he (by omega) (Or.inl ⟨z, this⟩)
    · have z : ¬ (97 ≤ mi 0 1 f ∧ mi 0 1 f ≤ 122) := fun w => c1 (ltB_t.mpr w)
      rw [if_neg c1]
      by_cases c2 : dgB (mi 0 1 f) = true
      · have z2 := dgB_t.mp c2
        rw [if_pos c2]
        refine rnE_is _ f e (by omega) (by omega) (fun j j0 j1 => ?_) (fun q w => ?_)
        · by_cases ej : j = f
          · rw [ej]; exact c2
          · have := hj j (by omega) j1
            exact dgB_t.mpr (by omega)
        · have := dgB_t.mp w
          exact he (by omega) (Or.inr ⟨z2, this⟩)
      · have z2 : ¬ (48 ≤ mi 0 1 f ∧ mi 0 1 f ≤ 57) := fun w => c2 (dgB_t.mpr w)
        rw [if_neg c2]
        by_cases ee : e = f + 1
        · exact ee.symm
        · exfalso
          have := hj (f + 1) (by omega) (by omega)
          omega
  refine tx_intro (ls := [vR (some (0, 1)), vI f, vI N, vX 0]) om_X0_endOfToken rfl (Nat.le_of_ble_eq_true rfl) ?_
  have loop : ∀ k : Nat, k ≤ (N - f - 1).toNat → (∀ j, f < j → j < f + 1 + k → ((97 ≤ mi 0 1 f ∧ mi 0 1 f ≤ 122) ∧ 97 ≤ mi 0 1 j ∧ mi 0 1 j ≤ 122) ∨ ((48 ≤ mi 0 1 f ∧ mi 0 1 f ≤ 57) ∧ 48 ≤ mi 0 1 j ∧ mi 0 1 j ≤ 57)) → Run (d+3) mt_X0_endOfToken Q (n, mr, 0, 0) mi 4 [vR (some (0, 1)), vI f, vI N, vI (f + 1 + k)] [] := by
    refine nloop ?_
    intro k hk ih hj
    refine s_iload_n (dc kc_X0_endOfToken 4 rfl) rfl <| s_iload_n (dc kc_X0_endOfToken 5 rfl) rfl <| s_icmp_ge (tgt := 27) (dc kc_X0_endOfToken 6 rfl) rfl (fun c6 => (s_iload_n (dc kc_X0_endOfToken 17 rfl) rfl <| s_ireturn (dc kc_X0_endOfToken 18 rfl) rfl (Nat.zero_le _) (Nat.zero_le _) ?_)) (fun c6 => (r_aload_n (dc kc_X0_endOfToken 7 rfl) rfl <| s_iload_n (dc kc_X0_endOfToken 8 rfl) rfl <| s_iaload (dc kc_X0_endOfToken 9 rfl) rfl (by first | omega | (simp [up] <;> omega)) (by first | omega | (simp [up] <;> omega)) <| r_aload_n (dc kc_X0_endOfToken 10 rfl) rfl <| s_iload_n (dc kc_X0_endOfToken 11 rfl) rfl <| s_iaload (dc kc_X0_endOfToken 12 rfl) rfl (by first | omega | (simp [up] <;> omega)) (by first | omega | (simp [up] <;> omega)) <| c_s2r (dc kc_X0_endOfToken 13 rfl) cl_X0_174 rfl (Nat.le_of_ble_eq_true rfl) (Nat.zero_le _) (Nat.zero_le _) <| u_isAlike <| s_if_eqb (tgt := 27) (dc kc_X0_endOfToken 14 rfl) rfl (fun c18 => (s_iload_n (dc kc_X0_endOfToken 17 rfl) rfl <| s_ireturn (dc kc_X0_endOfToken 18 rfl) rfl (Nat.zero_le _) (Nat.zero_le _) ?_)) (fun c18 => (b_inc3 (dc kc_X0_endOfToken 15 rfl) rfl (Nat.le_of_ble_eq_true rfl) rfl (by first | omega | (simp [up] <;> omega)) (by first | omega | (simp [up] <;> omega)) <| s_goto (tgt := 4) (dc kc_X0_endOfToken 16 rfl) rfl <| ?_))))
    · have := fin (f + 1 + k) (by omega) (by omega) hj (fun z => by omega)
      rw [← this]; exact hQ
    · have := fin (f + 1 + k) (by omega) (by omega) hj (fun _ => by assumption)
      rw [← this]; exact hQ
    · have ih := ih (by omega) (fun j j0 j1 => by
        by_cases e : j = f + 1 + k
        · rw [e]; assumption
        · exact hj j j0 (by omega))
      rw [show f + 1 + ((k + 1 : Nat) : Int) = f + 1 + (k : Int) + 1 by omega] at ih
      exact ih
  refine s_iload_n (dc kc_X0_endOfToken 0 rfl) rfl <| k_i (dc kc_X0_endOfToken 1 rfl) rfl <| b_iadd (dc kc_X0_endOfToken 2 rfl) (by first | omega | (simp [up] <;> omega)) (by first | omega | (simp [up] <;> omega)) <| t_i3 (dc kc_X0_endOfToken 3 rfl) (Nat.le_of_ble_eq_true rfl) rfl <| ?_
  have := loop 0 (Nat.zero_le _) (fun j j0 j1 => by omega)
  rw [show f + 1 + ((0 : Nat) : Int) = f + 1 by omega] at this
  exact this
theorem u_numberAt {mi : MI} {f e : Int} (h0 : 0 ≤ f) (h1 : f ≤ e) (he : e ≤ 400) (hd : ∀ j, f ≤ j → j < e → 48 ≤ mi 0 1 j ∧ mi 0 1 j ≤ 57) (hQ : Q (vI (nmb (byt (mi 0 1) (e - f).toNat f))) mi n mr) : Tx (d+2) mt_X0_numberAt [vR (some (0, 1)), vI f, vI e] mi n mr Q := by
  refine tx_intro (ls := [vR (some (0, 1)), vI f, vI e, vX 0, vX 0]) om_X0_numberAt rfl (Nat.le_of_ble_eq_true rfl) ?_
  have loop : ∀ k : Nat, k ≤ (e - f).toNat → Run (d+2) mt_X0_numberAt Q (n, mr, 0, 0) mi 5 [vR (some (0, 1)), vI f, vI e, vI (nmb (byt (mi 0 1) k f)), vI (f + k)] [] := by
    refine nloop ?_
    intro k hk ih
    have hrg := nmb_rg (l := byt (mi 0 1) k f) (byt_all k f (fun j j0 j1 => hd j j0 (by omega)))
    by_cases c : f + k < e
    · have ih := ih (by omega)
      have hd1 := hd (f + k) (by omega) c
      rw [byt_snoc, nmb_snoc, show f + ((k + 1 : Nat) : Int) = f + (k : Int) + 1 by omega] at ih
      generalize nmb (byt (mi 0 1) k f) = x at *
      refine s_iload (dc kc_X0_numberAt 4 rfl) rfl <| s_iload_n (dc kc_X0_numberAt 5 rfl) rfl <| s_icmp_ge (tgt := 35) (dc kc_X0_numberAt 6 rfl) rfl (fun c8 => (s_iload_n (dc kc_X0_numberAt 21 rfl) rfl <| s_ireturn (dc kc_X0_numberAt 22 rfl) rfl (Nat.zero_le _) (Nat.zero_le _) ?_)) (fun c8 => (s_iload_n (dc kc_X0_numberAt 7 rfl) rfl <| k_b (dc kc_X0_numberAt 8 rfl) rfl <| b_imul (dc kc_X0_numberAt 9 rfl) (by first | omega | (simp [up] <;> omega)) (by first | omega | (simp [up] <;> omega)) <| r_aload_n (dc kc_X0_numberAt 10 rfl) rfl <| s_iload (dc kc_X0_numberAt 11 rfl) rfl <| s_iaload (dc kc_X0_numberAt 12 rfl) rfl (by first | omega | (simp [up] <;> omega)) (by first | omega | (simp [up] <;> omega)) <| b_iadd (dc kc_X0_numberAt 13 rfl) (by first | omega | (simp [up] <;> omega)) (by first | omega | (simp [up] <;> omega)) <| k_b (dc kc_X0_numberAt 14 rfl) rfl <| b_isub (dc kc_X0_numberAt 15 rfl) (by first | omega | (simp [up] <;> omega)) (by first | omega | (simp [up] <;> omega)) <| k_b (dc kc_X0_numberAt 16 rfl) rfl <| c_s2r (dc kc_X0_numberAt 17 rfl) cl_X0_57 rfl (Nat.le_of_ble_eq_true rfl) (Nat.zero_le _) (Nat.zero_le _) <| u_min <| t_i3 (dc kc_X0_numberAt 18 rfl) (Nat.le_of_ble_eq_true rfl) rfl <| b_inc4 (dc kc_X0_numberAt 19 rfl) rfl (Nat.le_of_ble_eq_true rfl) rfl (by first | omega | (simp [up] <;> omega)) (by first | omega | (simp [up] <;> omega)) <| s_goto (tgt := 5) (dc kc_X0_numberAt 20 rfl) rfl <| ?_))
      · exfalso; omega
      · exact ih
    · have hk2 : k = (e - f).toNat := by omega
      subst hk2
      refine s_iload (dc kc_X0_numberAt 4 rfl) rfl <| s_iload_n (dc kc_X0_numberAt 5 rfl) rfl <| s_icmp_ge (tgt := 35) (dc kc_X0_numberAt 6 rfl) rfl (fun c8 => (s_iload_n (dc kc_X0_numberAt 21 rfl) rfl <| s_ireturn (dc kc_X0_numberAt 22 rfl) rfl (Nat.zero_le _) (Nat.zero_le _) ?_)) (fun c8 => (?_))
      · exact hQ
      · exfalso; omega
  refine k_i (dc kc_X0_numberAt 0 rfl) rfl <| t_i3 (dc kc_X0_numberAt 1 rfl) (Nat.le_of_ble_eq_true rfl) rfl <| s_iload_n (dc kc_X0_numberAt 2 rfl) rfl <| t_i4 (dc kc_X0_numberAt 3 rfl) (Nat.le_of_ble_eq_true rfl) rfl <| ?_
  have := loop 0 (Nat.zero_le _)
  rw [show f + ((0 : Nat) : Int) = f by omega] at this
  exact this
theorem u_isSame {mi : MI} {f e b : Int} (h0 : 0 ≤ f) (h1 : f ≤ e) (he : e ≤ 400) (hb : 0 ≤ b) (hb1 : b + (e - f) ≤ 101) (hQ : Q (vI (if byt (mi 0 1) (e - f).toNat f = byt txC (e - f).toNat b then 1 else 0)) mi n mr) : Tx (d+5) mt_X0_isSame [vR (some (0, 1)), vI f, vI e, vI b] mi n mr Q := by
  have hiff := byt_eq (t := mi 0 1) (s := txC) (e - f).toNat f b
  refine tx_intro (ls := [vR (some (0, 1)), vI f, vI e, vI b, vX 0]) om_X0_isSame rfl (Nat.le_of_ble_eq_true rfl) ?_
  have loop : ∀ k : Nat, k ≤ (e - f).toNat → (∀ j, 0 ≤ j → j < (k : Int) → mi 0 1 (f + j) = txC (b + j)) → Run (d+5) mt_X0_isSame Q (n, mr, 0, 0) mi 3 [vR (some (0, 1)), vI f, vI e, vI b, vI (f + k)] [] := by
    refine nloop ?_
    intro k hk ih hj
    by_cases c : f + k < e
    · refine s_iload (dc kc_X0_isSame 2 rfl) rfl <| s_iload_n (dc kc_X0_isSame 3 rfl) rfl <| s_icmp_ge (tgt := 35) (dc kc_X0_isSame 4 rfl) rfl (fun c6 => (k_i (dc kc_X0_isSame 20 rfl) rfl <| s_zreturn (dc kc_X0_isSame 21 rfl) rfl (by first | exact Or.inl rfl | exact Or.inr rfl | exact bi_01 | assumption) (Nat.zero_le _) (Nat.zero_le _) ?_)) (fun c6 => (r_aload_n (dc kc_X0_isSame 5 rfl) rfl <| s_iload (dc kc_X0_isSame 6 rfl) rfl <| s_iaload (dc kc_X0_isSame 7 rfl) rfl (by first | omega | (simp [up] <;> omega)) (by first | omega | (simp [up] <;> omega)) <| s_ldcT (i := 190) (dc kc_X0_isSame 8 rfl) rfl <| s_iload_n (dc kc_X0_isSame 9 rfl) rfl <| s_iload (dc kc_X0_isSame 10 rfl) rfl <| b_iadd (dc kc_X0_isSame 11 rfl) (by first | omega | (simp [up] <;> omega)) (by first | omega | (simp [up] <;> omega)) <| s_iload_n (dc kc_X0_isSame 12 rfl) rfl <| b_isub (dc kc_X0_isSame 13 rfl) (by first | omega | (simp [up] <;> omega)) (by first | omega | (simp [up] <;> omega)) <| c_t1r (dc kc_X0_isSame 14 rfl) om_J0_charAt_5068e cl_X0_198 rfl rfl rfl rfl (Nat.le_of_ble_eq_true rfl) (Nat.zero_le _) (Nat.zero_le _) <| u_charAt (by omega) (by omega) <| s_icmp_eq (tgt := 29) (dc kc_X0_isSame 15 rfl) rfl (fun c24 => (b_inc4 (dc kc_X0_isSame 18 rfl) rfl (Nat.le_of_ble_eq_true rfl) rfl (by first | omega | (simp [up] <;> omega)) (by first | omega | (simp [up] <;> omega)) <| s_goto (tgt := 3) (dc kc_X0_isSame 19 rfl) rfl <| ?_)) (fun c24 => (k_i (dc kc_X0_isSame 16 rfl) rfl <| s_zreturn (dc kc_X0_isSame 17 rfl) rfl (by first | exact Or.inl rfl | exact Or.inr rfl | exact bi_01 | assumption) (Nat.zero_le _) (Nat.zero_le _) ?_))))
      · exfalso; omega
      · have ih := ih (by omega) (fun j j0 j1 => by
          by_cases ej : j = k
          · rw [ej]
            rw [show b + (f + (k : Int)) - f = b + k by omega] at c24
            exact c24
          · exact hj j j0 (by omega))
        rw [show f + ((k + 1 : Nat) : Int) = f + (k : Int) + 1 by omega] at ih
        exact ih
      · rw [if_neg (fun z => c24 (by
          rw [show b + (f + (k : Int)) - f = b + k by omega]
          exact hiff.mp z k (by omega) (by omega)))] at hQ
        exact hQ
    · refine s_iload (dc kc_X0_isSame 2 rfl) rfl <| s_iload_n (dc kc_X0_isSame 3 rfl) rfl <| s_icmp_ge (tgt := 35) (dc kc_X0_isSame 4 rfl) rfl (fun c6 => (k_i (dc kc_X0_isSame 20 rfl) rfl <| s_zreturn (dc kc_X0_isSame 21 rfl) rfl (by first | exact Or.inl rfl | exact Or.inr rfl | exact bi_01 | assumption) (Nat.zero_le _) (Nat.zero_le _) ?_)) (fun c6 => (?_))
      · rw [if_pos (hiff.mpr (fun j j0 j1 => hj j j0 (by omega)))] at hQ
        exact hQ
      · exfalso; omega
  refine s_iload_n (dc kc_X0_isSame 0 rfl) rfl <| t_i4 (dc kc_X0_isSame 1 rfl) (Nat.le_of_ble_eq_true rfl) rfl <| ?_
  have := loop 0 (Nat.zero_le _) (fun j j0 j1 => by omega)
  rw [show f + ((0 : Nat) : Int) = f by omega] at this
  exact this
theorem u_wordAt {mi : MI} {f e : Int} (h0 : 0 ≤ f) (h1 : f < e) (he : e ≤ 400) (hQ : Q (vI (wno (byt (mi 0 1) (e - f).toNat f))) mi n mr) : Tx (d+6) mt_X0_wordAt [vR (some (0, 1)), vI f, vI e] mi n mr Q := by
  generalize hl : byt (mi 0 1) (e - f).toNat f = l at *
  have hlen : l.length = (e - f).toNat := by rw [← hl, byt_len]
  refine tx_intro (ls := [vR (some (0, 1)), vI f, vI e, vX 0, vX 0, vX 0]) om_X0_wordAt rfl (Nat.le_of_ble_eq_true rfl) ?_
  have loop : ∀ i : Nat, i ≤ 101 → (∀ j : Nat, j < wIl.getD i 0 → WL[j]? ≠ some l) → Run (d+6) mt_X0_wordAt Q (n, mr, 0, 0) mi 8 [vR (some (0, 1)), vI f, vI e, vI (wIl.getD i 0 : Nat), vI (bIl.getD i 0 : Nat), vI (i : Int)] [] := by
    refine nloop ?_
    intro i hi ih hno
    by_cases c : i < 101
    · have ih := ih c
      obtain ⟨t1, t2, t3, t4⟩ := wtab i c
      generalize wIl.getD i 0 = w at *
      generalize bIl.getD i 0 = b at *
      generalize wIl.getD (i + 1) 0 = w' at *
      generalize bIl.getD (i + 1) 0 = b' at *
      by_cases c32 : txC i = 32
      · obtain ⟨s1, s2, s3⟩ := t1 c32
        subst s1
        subst s2
        have nx : (WL[w]? ≠ some l) → Run (d+6) mt_X0_wordAt Q (n, mr, 0, 0) mi 54 [vR (some (0, 1)), vI f, vI e, vI (w : Int), vI (b : Int), vI (i : Int)] [] := fun hw => by
          have ih := ih (fun j hj => by
            by_cases ej : j = w
            · rw [ej]; exact hw
            · exact hno j (by omega))
          rw [show ((w + 1 : Nat) : Int) = (w : Int) + 1 by omega, show ((i + 1 : Nat) : Int) = (i : Int) + 1 by omega] at ih
          refine b_inc3 (dc kc_X0_wordAt 30 rfl) rfl (Nat.le_of_ble_eq_true rfl) rfl (by first | omega | (simp [up] <;> omega)) (by first | omega | (simp [up] <;> omega)) <| s_iload (dc kc_X0_wordAt 31 rfl) rfl <| k_i (dc kc_X0_wordAt 32 rfl) rfl <| b_iadd (dc kc_X0_wordAt 33 rfl) (by first | omega | (simp [up] <;> omega)) (by first | omega | (simp [up] <;> omega)) <| t_i4 (dc kc_X0_wordAt 34 rfl) (Nat.le_of_ble_eq_true rfl) rfl <| b_inc5 (dc kc_X0_wordAt 35 rfl) rfl (Nat.le_of_ble_eq_true rfl) rfl (by first | omega | (simp [up] <;> omega)) (by first | omega | (simp [up] <;> omega)) <| s_goto (tgt := 8) (dc kc_X0_wordAt 36 rfl) rfl <| ?_
          exact ih
        refine s_iload (dc kc_X0_wordAt 6 rfl) rfl <| s_ldcT (i := 190) (dc kc_X0_wordAt 7 rfl) rfl <| c_t0r (dc kc_X0_wordAt 8 rfl) om_J0_length_8abf5 cl_X0_192 rfl rfl rfl rfl (Nat.le_of_ble_eq_true rfl) (Nat.zero_le _) (Nat.zero_le _) <| u_strlen <| s_icmp_ge (tgt := 69) (dc kc_X0_wordAt 9 rfl) rfl (fun c15 => (k_b (dc kc_X0_wordAt 37 rfl) rfl <| s_ireturn (dc kc_X0_wordAt 38 rfl) rfl (Nat.zero_le _) (Nat.zero_le _) ?_)) (fun c15 => (s_ldcT (i := 190) (dc kc_X0_wordAt 10 rfl) rfl <| s_iload (dc kc_X0_wordAt 11 rfl) rfl <| c_t1r (dc kc_X0_wordAt 12 rfl) om_J0_charAt_5068e cl_X0_198 rfl rfl rfl rfl (Nat.le_of_ble_eq_true rfl) (Nat.zero_le _) (Nat.zero_le _) <| u_charAt (by omega) (by omega) <| k_b (dc kc_X0_wordAt 13 rfl) rfl <| s_icmp_ne (tgt := 63) (dc kc_X0_wordAt 14 rfl) rfl (fun c27 => (?_)) (fun c27 => (s_iload (dc kc_X0_wordAt 15 rfl) rfl <| s_iload (dc kc_X0_wordAt 16 rfl) rfl <| b_isub (dc kc_X0_wordAt 17 rfl) (by first | omega | (simp [up] <;> omega)) (by first | omega | (simp [up] <;> omega)) <| s_iload_n (dc kc_X0_wordAt 18 rfl) rfl <| s_iload_n (dc kc_X0_wordAt 19 rfl) rfl <| b_isub (dc kc_X0_wordAt 20 rfl) (by first | omega | (simp [up] <;> omega)) (by first | omega | (simp [up] <;> omega)) <| s_icmp_ne (tgt := 54) (dc kc_X0_wordAt 21 rfl) rfl (fun c38 => (?_)) (fun c38 => (r_aload_n (dc kc_X0_wordAt 22 rfl) rfl <| s_iload_n (dc kc_X0_wordAt 23 rfl) rfl <| s_iload_n (dc kc_X0_wordAt 24 rfl) rfl <| s_iload (dc kc_X0_wordAt 25 rfl) rfl <| c_s4r (dc kc_X0_wordAt 26 rfl) cl_X0_202 rfl (Nat.le_of_ble_eq_true rfl) (Nat.zero_le _) (Nat.zero_le _) ?_))))))
        · exfalso; omega
        · exfalso; omega
        · refine nx (fun z => ?_)
          rw [s3] at z
          have := congrArg List.length (Option.some.inj z)
          rw [byt_len, hlen] at this
          omega
        · refine u_isSame h0 (by omega) he (by omega) (by omega) ?_
          have hbe : byt txC (e - f).toNat b = byt txC (i - b) b := by rw [show (e - f).toNat = i - b by omega]
          rw [hl, hbe]
          by_cases cs : l = byt txC (i - b) b
          · rw [if_pos cs]
            refine s_if_eq (tgt := 54) (dc kc_X0_wordAt 27 rfl) rfl (fun c49 => (?_)) (fun c49 => (s_iload_n (dc kc_X0_wordAt 28 rfl) rfl <| s_ireturn (dc kc_X0_wordAt 29 rfl) rfl (Nat.zero_le _) (Nat.zero_le _) ?_))
            · exfalso; omega
            · have : wno l = w := by
                unfold wno
                rw [wnoF_is WL 0 l w (by rw [s3, ← cs]) hno]
                omega
              rw [← this]; exact hQ
          · rw [if_neg cs]
            refine s_if_eq (tgt := 54) (dc kc_X0_wordAt 27 rfl) rfl (fun c49 => (?_)) (fun c49 => (s_iload_n (dc kc_X0_wordAt 28 rfl) rfl <| s_ireturn (dc kc_X0_wordAt 29 rfl) rfl (Nat.zero_le _) (Nat.zero_le _) ?_))
            · exact nx (fun z => cs (by rw [s3] at z; exact (Option.some.inj z).symm))
            · exfalso; omega
      · obtain ⟨s1, s2⟩ := t2 c32
        subst s1
        subst s2
        have ih := ih hno
        rw [show ((i + 1 : Nat) : Int) = (i : Int) + 1 by omega] at ih
        refine s_iload (dc kc_X0_wordAt 6 rfl) rfl <| s_ldcT (i := 190) (dc kc_X0_wordAt 7 rfl) rfl <| c_t0r (dc kc_X0_wordAt 8 rfl) om_J0_length_8abf5 cl_X0_192 rfl rfl rfl rfl (Nat.le_of_ble_eq_true rfl) (Nat.zero_le _) (Nat.zero_le _) <| u_strlen <| s_icmp_ge (tgt := 69) (dc kc_X0_wordAt 9 rfl) rfl (fun c15 => (k_b (dc kc_X0_wordAt 37 rfl) rfl <| s_ireturn (dc kc_X0_wordAt 38 rfl) rfl (Nat.zero_le _) (Nat.zero_le _) ?_)) (fun c15 => (s_ldcT (i := 190) (dc kc_X0_wordAt 10 rfl) rfl <| s_iload (dc kc_X0_wordAt 11 rfl) rfl <| c_t1r (dc kc_X0_wordAt 12 rfl) om_J0_charAt_5068e cl_X0_198 rfl rfl rfl rfl (Nat.le_of_ble_eq_true rfl) (Nat.zero_le _) (Nat.zero_le _) <| u_charAt (by omega) (by omega) <| k_b (dc kc_X0_wordAt 13 rfl) rfl <| s_icmp_ne (tgt := 63) (dc kc_X0_wordAt 14 rfl) rfl (fun c27 => (b_inc5 (dc kc_X0_wordAt 35 rfl) rfl (Nat.le_of_ble_eq_true rfl) rfl (by first | omega | (simp [up] <;> omega)) (by first | omega | (simp [up] <;> omega)) <| s_goto (tgt := 8) (dc kc_X0_wordAt 36 rfl) rfl <| ?_)) (fun c27 => (?_))))
        · exfalso; omega
        · exact ih
        · exfalso; omega
    · have hi2 : i = 101 := by omega
      subst hi2
      refine s_iload (dc kc_X0_wordAt 6 rfl) rfl <| s_ldcT (i := 190) (dc kc_X0_wordAt 7 rfl) rfl <| c_t0r (dc kc_X0_wordAt 8 rfl) om_J0_length_8abf5 cl_X0_192 rfl rfl rfl rfl (Nat.le_of_ble_eq_true rfl) (Nat.zero_le _) (Nat.zero_le _) <| u_strlen <| s_icmp_ge (tgt := 69) (dc kc_X0_wordAt 9 rfl) rfl (fun c15 => (k_b (dc kc_X0_wordAt 37 rfl) rfl <| s_ireturn (dc kc_X0_wordAt 38 rfl) rfl (Nat.zero_le _) (Nat.zero_le _) ?_)) (fun c15 => (?_))
      · have : wno l = 21 := by
          unfold wno
          rw [wnoF_no WL 0 l (fun j hj => hno j hj)]
          rfl
        rw [← this]; exact hQ
      · exfalso; omega
  refine k_i (dc kc_X0_wordAt 0 rfl) rfl <| t_i3 (dc kc_X0_wordAt 1 rfl) (Nat.le_of_ble_eq_true rfl) rfl <| k_i (dc kc_X0_wordAt 2 rfl) rfl <| t_i4 (dc kc_X0_wordAt 3 rfl) (Nat.le_of_ble_eq_true rfl) rfl <| k_i (dc kc_X0_wordAt 4 rfl) rfl <| t_i5 (dc kc_X0_wordAt 5 rfl) (Nat.le_of_ble_eq_true rfl) rfl <| ?_
  exact loop 0 (Nat.zero_le _) (fun j hj => absurd hj (Nat.not_lt_zero _))
end SCN
