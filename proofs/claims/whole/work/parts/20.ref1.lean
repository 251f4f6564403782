/-! the reference: its small methods -/
section REF1
variable {d n : Nat} {mi : MI} {mr : MR} {Q : V → MI → Nat → MR → Prop}
theorem t_in {v lo hi : Int} (hQ : Q (vI (bi (lo ≤ v ∧ v ≤ hi))) mi n mr) : Tx (d+1) mt_X12_in [vL v, vL lo, vL hi] mi n mr Q := by
  refine tx_intro (ls := [vL v, vX 0, vL lo, vX 0, vL hi, vX 0]) om_X12_in rfl (Nat.le_of_ble_eq_true rfl) ?_
  refine s_lload_n (dc kc_X12_in 0 rfl) rfl <| s_lload_n (dc kc_X12_in 1 rfl) rfl <| s_lcmp (dc kc_X12_in 2 rfl) <| s_if_lt (tgt := 17) (dc kc_X12_in 3 rfl) rfl (fun c3 => (k_i (dc kc_X12_in 10 rfl) rfl <| s_zreturn (dc kc_X12_in 11 rfl) rfl (by first | exact Or.inl rfl | exact Or.inr rfl | exact bi_01 | assumption) (Nat.zero_le _) (Nat.zero_le _) ?_)) (fun c3 => (s_lload_n (dc kc_X12_in 4 rfl) rfl <| s_lload (dc kc_X12_in 5 rfl) rfl <| s_lcmp (dc kc_X12_in 6 rfl) <| s_if_gt (tgt := 17) (dc kc_X12_in 7 rfl) rfl (fun c10 => (k_i (dc kc_X12_in 10 rfl) rfl <| s_zreturn (dc kc_X12_in 11 rfl) rfl (by first | exact Or.inl rfl | exact Or.inr rfl | exact bi_01 | assumption) (Nat.zero_le _) (Nat.zero_le _) ?_)) (fun c10 => (k_i (dc kc_X12_in 8 rfl) rfl <| s_goto (tgt := 18) (dc kc_X12_in 9 rfl) rfl <| s_zreturn (dc kc_X12_in 11 rfl) rfl (by first | exact Or.inl rfl | exact Or.inr rfl | exact bi_01 | assumption) (Nat.zero_le _) (Nat.zero_le _) ?_))))
  all_goals simp only [lc_lt, lc_le, lc_gt, lc_ge] at *
  · rw [bi_f (by omega)] at hQ; exact hQ
  · rw [bi_f (by omega)] at hQ; exact hQ
  · rw [bi_t (by omega)] at hQ; exact hQ
theorem t_tell {v : Int} (hQ : Q (vI v) (up mi 0 80 1 (if v < 0 then v else 0)) n mr) : Tx (d+1) mt_X12_tell [vR (some (0, 80)), vI v] mi n mr Q := by
  refine tx_intro (ls := [vR (some (0, 80)), vI v]) om_X12_tell rfl (Nat.le_of_ble_eq_true rfl) ?_
  refine r_aload_n (dc kc_X12_tell 0 rfl) rfl <| s_iload_n (dc kc_X12_tell 1 rfl) rfl <| s_if_ge (tgt := 9) (dc kc_X12_tell 2 rfl) rfl (fun c2 => (k_i (dc kc_X12_tell 5 rfl) rfl <| s_putI (dc kc_X12_tell 6 rfl) fl_X12_89 <| s_iload_n (dc kc_X12_tell 7 rfl) rfl <| s_ireturn (dc kc_X12_tell 8 rfl) rfl (Nat.zero_le _) (Nat.zero_le _) ?_)) (fun c2 => (s_iload_n (dc kc_X12_tell 3 rfl) rfl <| s_goto (tgt := 10) (dc kc_X12_tell 4 rfl) rfl <| s_putI (dc kc_X12_tell 6 rfl) fl_X12_89 <| s_iload_n (dc kc_X12_tell 7 rfl) rfl <| s_ireturn (dc kc_X12_tell 8 rfl) rfl (Nat.zero_le _) (Nat.zero_le _) ?_))
  · rw [if_neg (by omega)] at hQ; exact hQ
  · rw [if_pos (by omega)] at hQ; exact hQ
end REF1
