/-! the class: arrays filled, web and watch become others -/
section FIL
variable {d n G : Nat} {mr : MR} {Q : V → MI → Nat → MR → Prop}
theorem u_fill_37 {mi : MI} {g : Nat} {v : Int} (hQ : ∀ mi', Cg (fun a b _ => a == g && b == 37) mi mi' → (∀ i, 0 ≤ i → i < 200 → mi' g 37 i = v) → Q (vX 0) mi' n mr) : Tx (d+1) mt_J7_fill_53178 [vR (some (g, 37)), vI v] mi n mr Q := by
  refine tx_intro (ls := [vR (some (g, 37)), vI v, vX 0, vX 0]) om_J7_fill_53178 rfl (Nat.le_of_ble_eq_true rfl) ?_
  have loop : ∀ k : Nat, k ≤ 200 → ∀ m : MI, Cg (fun a b _ => a == g && b == 37) mi m → (∀ i, 0 ≤ i → i < (k : Int) → m g 37 i = v) → Run (d+1) mt_J7_fill_53178 Q (n, mr, 0, 0) m 5 [vR (some (g, 37)), vI v, vI (k : Int), vI 200] [] := by
    refine nloop ?_
    intro k hk ih m gC hm
    by_cases he : k < 200
    · refine s_iload_n (dc kc_J7_fill_53178 5 rfl) rfl <| s_iload_n (dc kc_J7_fill_53178 6 rfl) rfl <| s_icmp_ge (tgt := 20) (dc kc_J7_fill_53178 7 rfl) rfl (fun c7 => (?_)) (fun c7 => (r_aload_n (dc kc_J7_fill_53178 8 rfl) rfl <| s_iload_n (dc kc_J7_fill_53178 9 rfl) rfl <| s_iload_n (dc kc_J7_fill_53178 10 rfl) rfl <| s_iastore (dc kc_J7_fill_53178 11 rfl) rfl (by first | omega | (simp [up] <;> omega)) (by first | omega | (simp [up] <;> omega)) <| b_inc2 (dc kc_J7_fill_53178 12 rfl) rfl (Nat.le_of_ble_eq_true rfl) rfl (by first | omega | (simp [up] <;> omega)) (by first | omega | (simp [up] <;> omega)) <| s_goto (tgt := 5) (dc kc_J7_fill_53178 13 rfl) rfl <| ?_))
      · exfalso; omega
      · refine ih he _ (gC.up (by simp)) (fun i a b => ?_)
        by_cases e : i = k
        · subst e; rw [up_at]
        · rw [up_k e]; exact hm i a (by omega)
    · refine s_iload_n (dc kc_J7_fill_53178 5 rfl) rfl <| s_iload_n (dc kc_J7_fill_53178 6 rfl) rfl <| s_icmp_ge (tgt := 20) (dc kc_J7_fill_53178 7 rfl) rfl (fun c7 => (s_return (dc kc_J7_fill_53178 14 rfl) rfl (Nat.zero_le _) (Nat.zero_le _) ?_)) (fun c7 => (?_))
      · exact hQ m gC (fun i a b => hm i a (by omega))
      · exfalso; omega
  refine k_i (dc kc_J7_fill_53178 0 rfl) rfl <| t_i2 (dc kc_J7_fill_53178 1 rfl) (Nat.le_of_ble_eq_true rfl) rfl <| r_aload_n (dc kc_J7_fill_53178 2 rfl) rfl <| s_alen (dc kc_J7_fill_53178 3 rfl) rfl (by decide) <| t_i3 (dc kc_J7_fill_53178 4 rfl) (Nat.le_of_ble_eq_true rfl) rfl <| ?_
  exact loop 0 (Nat.zero_le _) mi Cg.rf (fun i a b => by omega)
theorem u_fill_41 {mi : MI} {g : Nat} {v : Int} (hQ : ∀ mi', Cg (fun a b _ => a == g && b == 41) mi mi' → (∀ i, 0 ≤ i → i < 12 → mi' g 41 i = v) → Q (vX 0) mi' n mr) : Tx (d+1) mt_J7_fill_53178 [vR (some (g, 41)), vI v] mi n mr Q := by
  refine tx_intro (ls := [vR (some (g, 41)), vI v, vX 0, vX 0]) om_J7_fill_53178 rfl (Nat.le_of_ble_eq_true rfl) ?_
  have loop : ∀ k : Nat, k ≤ 12 → ∀ m : MI, Cg (fun a b _ => a == g && b == 41) mi m → (∀ i, 0 ≤ i → i < (k : Int) → m g 41 i = v) → Run (d+1) mt_J7_fill_53178 Q (n, mr, 0, 0) m 5 [vR (some (g, 41)), vI v, vI (k : Int), vI 12] [] := by
    refine nloop ?_
    intro k hk ih m gC hm
    by_cases he : k < 12
    · refine s_iload_n (dc kc_J7_fill_53178 5 rfl) rfl <| s_iload_n (dc kc_J7_fill_53178 6 rfl) rfl <| s_icmp_ge (tgt := 20) (dc kc_J7_fill_53178 7 rfl) rfl (fun c7 => (?_)) (fun c7 => (r_aload_n (dc kc_J7_fill_53178 8 rfl) rfl <| s_iload_n (dc kc_J7_fill_53178 9 rfl) rfl <| s_iload_n (dc kc_J7_fill_53178 10 rfl) rfl <| s_iastore (dc kc_J7_fill_53178 11 rfl) rfl (by first | omega | (simp [up] <;> omega)) (by first | omega | (simp [up] <;> omega)) <| b_inc2 (dc kc_J7_fill_53178 12 rfl) rfl (Nat.le_of_ble_eq_true rfl) rfl (by first | omega | (simp [up] <;> omega)) (by first | omega | (simp [up] <;> omega)) <| s_goto (tgt := 5) (dc kc_J7_fill_53178 13 rfl) rfl <| ?_))
      · exfalso; omega
      · refine ih he _ (gC.up (by simp)) (fun i a b => ?_)
        by_cases e : i = k
        · subst e; rw [up_at]
        · rw [up_k e]; exact hm i a (by omega)
    · refine s_iload_n (dc kc_J7_fill_53178 5 rfl) rfl <| s_iload_n (dc kc_J7_fill_53178 6 rfl) rfl <| s_icmp_ge (tgt := 20) (dc kc_J7_fill_53178 7 rfl) rfl (fun c7 => (s_return (dc kc_J7_fill_53178 14 rfl) rfl (Nat.zero_le _) (Nat.zero_le _) ?_)) (fun c7 => (?_))
      · exact hQ m gC (fun i a b => hm i a (by omega))
      · exfalso; omega
  refine k_i (dc kc_J7_fill_53178 0 rfl) rfl <| t_i2 (dc kc_J7_fill_53178 1 rfl) (Nat.le_of_ble_eq_true rfl) rfl <| r_aload_n (dc kc_J7_fill_53178 2 rfl) rfl <| s_alen (dc kc_J7_fill_53178 3 rfl) rfl (by decide) <| t_i3 (dc kc_J7_fill_53178 4 rfl) (Nat.le_of_ble_eq_true rfl) rfl <| ?_
  exact loop 0 (Nat.zero_le _) mi Cg.rf (fun i a b => by omega)
theorem u_fill_42 {mi : MI} {g : Nat} {v : Int} (hQ : ∀ mi', Cg (fun a b _ => a == g && b == 42) mi mi' → (∀ i, 0 ≤ i → i < 12 → mi' g 42 i = v) → Q (vX 0) mi' n mr) : Tx (d+1) mt_J7_fill_53178 [vR (some (g, 42)), vI v] mi n mr Q := by
  refine tx_intro (ls := [vR (some (g, 42)), vI v, vX 0, vX 0]) om_J7_fill_53178 rfl (Nat.le_of_ble_eq_true rfl) ?_
  have loop : ∀ k : Nat, k ≤ 12 → ∀ m : MI, Cg (fun a b _ => a == g && b == 42) mi m → (∀ i, 0 ≤ i → i < (k : Int) → m g 42 i = v) → Run (d+1) mt_J7_fill_53178 Q (n, mr, 0, 0) m 5 [vR (some (g, 42)), vI v, vI (k : Int), vI 12] [] := by
    refine nloop ?_
    intro k hk ih m gC hm
    by_cases he : k < 12
    · refine s_iload_n (dc kc_J7_fill_53178 5 rfl) rfl <| s_iload_n (dc kc_J7_fill_53178 6 rfl) rfl <| s_icmp_ge (tgt := 20) (dc kc_J7_fill_53178 7 rfl) rfl (fun c7 => (?_)) (fun c7 => (r_aload_n (dc kc_J7_fill_53178 8 rfl) rfl <| s_iload_n (dc kc_J7_fill_53178 9 rfl) rfl <| s_iload_n (dc kc_J7_fill_53178 10 rfl) rfl <| s_iastore (dc kc_J7_fill_53178 11 rfl) rfl (by first | omega | (simp [up] <;> omega)) (by first | omega | (simp [up] <;> omega)) <| b_inc2 (dc kc_J7_fill_53178 12 rfl) rfl (Nat.le_of_ble_eq_true rfl) rfl (by first | omega | (simp [up] <;> omega)) (by first | omega | (simp [up] <;> omega)) <| s_goto (tgt := 5) (dc kc_J7_fill_53178 13 rfl) rfl <| ?_))
      · exfalso; omega
      · refine ih he _ (gC.up (by simp)) (fun i a b => ?_)
        by_cases e : i = k
        · subst e; rw [up_at]
        · rw [up_k e]; exact hm i a (by omega)
    · refine s_iload_n (dc kc_J7_fill_53178 5 rfl) rfl <| s_iload_n (dc kc_J7_fill_53178 6 rfl) rfl <| s_icmp_ge (tgt := 20) (dc kc_J7_fill_53178 7 rfl) rfl (fun c7 => (s_return (dc kc_J7_fill_53178 14 rfl) rfl (Nat.zero_le _) (Nat.zero_le _) ?_)) (fun c7 => (?_))
      · exact hQ m gC (fun i a b => hm i a (by omega))
      · exfalso; omega
  refine k_i (dc kc_J7_fill_53178 0 rfl) rfl <| t_i2 (dc kc_J7_fill_53178 1 rfl) (Nat.le_of_ble_eq_true rfl) rfl <| r_aload_n (dc kc_J7_fill_53178 2 rfl) rfl <| s_alen (dc kc_J7_fill_53178 3 rfl) rfl (by decide) <| t_i3 (dc kc_J7_fill_53178 4 rfl) (Nat.le_of_ble_eq_true rfl) rfl <| ?_
  exact loop 0 (Nat.zero_le _) mi Cg.rf (fun i a b => by omega)
theorem u_fill_43 {mi : MI} {g : Nat} {v : Int} (hQ : ∀ mi', Cg (fun a b _ => a == g && b == 43) mi mi' → (∀ i, 0 ≤ i → i < 12 → mi' g 43 i = v) → Q (vX 0) mi' n mr) : Tx (d+1) mt_J7_fill_53178 [vR (some (g, 43)), vI v] mi n mr Q := by
  refine tx_intro (ls := [vR (some (g, 43)), vI v, vX 0, vX 0]) om_J7_fill_53178 rfl (Nat.le_of_ble_eq_true rfl) ?_
  have loop : ∀ k : Nat, k ≤ 12 → ∀ m : MI, Cg (fun a b _ => a == g && b == 43) mi m → (∀ i, 0 ≤ i → i < (k : Int) → m g 43 i = v) → Run (d+1) mt_J7_fill_53178 Q (n, mr, 0, 0) m 5 [vR (some (g, 43)), vI v, vI (k : Int), vI 12] [] := by
    refine nloop ?_
    intro k hk ih m gC hm
    by_cases he : k < 12
    · refine s_iload_n (dc kc_J7_fill_53178 5 rfl) rfl <| s_iload_n (dc kc_J7_fill_53178 6 rfl) rfl <| s_icmp_ge (tgt := 20) (dc kc_J7_fill_53178 7 rfl) rfl (fun c7 => (?_)) (fun c7 => (r_aload_n (dc kc_J7_fill_53178 8 rfl) rfl <| s_iload_n (dc kc_J7_fill_53178 9 rfl) rfl <| s_iload_n (dc kc_J7_fill_53178 10 rfl) rfl <| s_iastore (dc kc_J7_fill_53178 11 rfl) rfl (by first | omega | (simp [up] <;> omega)) (by first | omega | (simp [up] <;> omega)) <| b_inc2 (dc kc_J7_fill_53178 12 rfl) rfl (Nat.le_of_ble_eq_true rfl) rfl (by first | omega | (simp [up] <;> omega)) (by first | omega | (simp [up] <;> omega)) <| s_goto (tgt := 5) (dc kc_J7_fill_53178 13 rfl) rfl <| ?_))
      · exfalso; omega
      · refine ih he _ (gC.up (by simp)) (fun i a b => ?_)
        by_cases e : i = k
        · subst e; rw [up_at]
        · rw [up_k e]; exact hm i a (by omega)
    · refine s_iload_n (dc kc_J7_fill_53178 5 rfl) rfl <| s_iload_n (dc kc_J7_fill_53178 6 rfl) rfl <| s_icmp_ge (tgt := 20) (dc kc_J7_fill_53178 7 rfl) rfl (fun c7 => (s_return (dc kc_J7_fill_53178 14 rfl) rfl (Nat.zero_le _) (Nat.zero_le _) ?_)) (fun c7 => (?_))
      · exact hQ m gC (fun i a b => hm i a (by omega))
      · exfalso; omega
  refine k_i (dc kc_J7_fill_53178 0 rfl) rfl <| t_i2 (dc kc_J7_fill_53178 1 rfl) (Nat.le_of_ble_eq_true rfl) rfl <| r_aload_n (dc kc_J7_fill_53178 2 rfl) rfl <| s_alen (dc kc_J7_fill_53178 3 rfl) rfl (by decide) <| t_i3 (dc kc_J7_fill_53178 4 rfl) (Nat.le_of_ble_eq_true rfl) rfl <| ?_
  exact loop 0 (Nat.zero_le _) mi Cg.rf (fun i a b => by omega)
theorem u_fill_73 {mi : MI} {g : Nat} {v : Int} (hQ : ∀ mi', Cg (fun a b _ => a == g && b == 73) mi mi' → (∀ i, 0 ≤ i → i < 4 → mi' g 73 i = v) → Q (vX 0) mi' n mr) : Tx (d+1) mt_J7_fill_53178 [vR (some (g, 73)), vI v] mi n mr Q := by
  refine tx_intro (ls := [vR (some (g, 73)), vI v, vX 0, vX 0]) om_J7_fill_53178 rfl (Nat.le_of_ble_eq_true rfl) ?_
  have loop : ∀ k : Nat, k ≤ 4 → ∀ m : MI, Cg (fun a b _ => a == g && b == 73) mi m → (∀ i, 0 ≤ i → i < (k : Int) → m g 73 i = v) → Run (d+1) mt_J7_fill_53178 Q (n, mr, 0, 0) m 5 [vR (some (g, 73)), vI v, vI (k : Int), vI 4] [] := by
    refine nloop ?_
    intro k hk ih m gC hm
    by_cases he : k < 4
    · refine s_iload_n (dc kc_J7_fill_53178 5 rfl) rfl <| s_iload_n (dc kc_J7_fill_53178 6 rfl) rfl <| s_icmp_ge (tgt := 20) (dc kc_J7_fill_53178 7 rfl) rfl (fun c7 => (?_)) (fun c7 => (r_aload_n (dc kc_J7_fill_53178 8 rfl) rfl <| s_iload_n (dc kc_J7_fill_53178 9 rfl) rfl <| s_iload_n (dc kc_J7_fill_53178 10 rfl) rfl <| s_iastore (dc kc_J7_fill_53178 11 rfl) rfl (by first | omega | (simp [up] <;> omega)) (by first | omega | (simp [up] <;> omega)) <| b_inc2 (dc kc_J7_fill_53178 12 rfl) rfl (Nat.le_of_ble_eq_true rfl) rfl (by first | omega | (simp [up] <;> omega)) (by first | omega | (simp [up] <;> omega)) <| s_goto (tgt := 5) (dc kc_J7_fill_53178 13 rfl) rfl <| ?_))
      · exfalso; omega
      · refine ih he _ (gC.up (by simp)) (fun i a b => ?_)
        by_cases e : i = k
        · subst e; rw [up_at]
        · rw [up_k e]; exact hm i a (by omega)
    · refine s_iload_n (dc kc_J7_fill_53178 5 rfl) rfl <| s_iload_n (dc kc_J7_fill_53178 6 rfl) rfl <| s_icmp_ge (tgt := 20) (dc kc_J7_fill_53178 7 rfl) rfl (fun c7 => (s_return (dc kc_J7_fill_53178 14 rfl) rfl (Nat.zero_le _) (Nat.zero_le _) ?_)) (fun c7 => (?_))
      · exact hQ m gC (fun i a b => hm i a (by omega))
      · exfalso; omega
  refine k_i (dc kc_J7_fill_53178 0 rfl) rfl <| t_i2 (dc kc_J7_fill_53178 1 rfl) (Nat.le_of_ble_eq_true rfl) rfl <| r_aload_n (dc kc_J7_fill_53178 2 rfl) rfl <| s_alen (dc kc_J7_fill_53178 3 rfl) rfl (by decide) <| t_i3 (dc kc_J7_fill_53178 4 rfl) (Nat.le_of_ble_eq_true rfl) rfl <| ?_
  exact loop 0 (Nat.zero_le _) mi Cg.rf (fun i a b => by omega)
theorem u_loseLines (hL : Lay G mr) {mi : MI} {g : Nat} (hg : g < G) (hQ : ∀ mi', Cg (fun a b _ => a == g && b == 37) mi mi' → (∀ i, 0 ≤ i → i < 200 → mi' g 37 i = -1) → Q (vX 0) mi' n mr) : Tx (d+2) mt_X1_loseLines [vR (some (g, 30))] mi n mr Q := by
  have hok : okI G 30 g := hg
  refine tx_intro (ls := [vR (some (g, 30))]) om_X1_loseLines rfl (Nat.le_of_ble_eq_true rfl) ?_
  refine r_aload_n (dc kc_X1_loseLines 0 rfl) rfl <| s_getA (dc kc_X1_loseLines 1 rfl) fl_X1_40 (ly_30_9 hL (by assumption)) <| k_i (dc kc_X1_loseLines 2 rfl) rfl <| c_s2 (dc kc_X1_loseLines 3 rfl) cl_X1_74 rfl (Nat.le_of_ble_eq_true rfl) (Nat.zero_le _) (Nat.zero_le _) ?_
  refine u_fill_37 (fun m1 g1 h1 => ?_)
  refine s_return (dc kc_X1_loseLines 4 rfl) rfl (Nat.zero_le _) (Nat.zero_le _) ?_
  exact hQ m1 g1 h1
theorem u_wforget (hL : Lay G mr) {mi : MI} {g : Nat} (hg : g < G) (hQ : ∀ mi', Cg (fun a b _ => a == g && (b == 41 || b == 42 || b == 43)) mi mi' → (∀ i, 0 ≤ i → i < 12 → mi' g 41 i = -1 ∧ mi' g 42 i = -1 ∧ mi' g 43 i = -1) → Q (vX 0) mi' n mr) : Tx (d+2) mt_X9_forget [vR (some (g, 40))] mi n mr Q := by
  have hok : okI G 40 g := hg
  refine tx_intro (ls := [vR (some (g, 40))]) om_X9_forget rfl (Nat.le_of_ble_eq_true rfl) ?_
  refine r_aload_n (dc kc_X9_forget 0 rfl) rfl <| s_getA (dc kc_X9_forget 1 rfl) fl_X9_21 (ly_40_3 hL (by assumption)) <| k_i (dc kc_X9_forget 2 rfl) rfl <| c_s2 (dc kc_X9_forget 3 rfl) cl_X9_34 rfl (Nat.le_of_ble_eq_true rfl) (Nat.zero_le _) (Nat.zero_le _) ?_
  refine u_fill_41 (fun m1 g1 h1 => ?_)
  refine r_aload_n (dc kc_X9_forget 4 rfl) rfl <| s_getA (dc kc_X9_forget 5 rfl) fl_X9_25 (ly_40_4 hL (by assumption)) <| k_i (dc kc_X9_forget 6 rfl) rfl <| c_s2 (dc kc_X9_forget 7 rfl) cl_X9_34 rfl (Nat.le_of_ble_eq_true rfl) (Nat.zero_le _) (Nat.zero_le _) ?_
  refine u_fill_42 (fun m2 g2 h2 => ?_)
  refine r_aload_n (dc kc_X9_forget 8 rfl) rfl <| s_getA (dc kc_X9_forget 9 rfl) fl_X9_28 (ly_40_5 hL (by assumption)) <| k_i (dc kc_X9_forget 10 rfl) rfl <| c_s2 (dc kc_X9_forget 11 rfl) cl_X9_34 rfl (Nat.le_of_ble_eq_true rfl) (Nat.zero_le _) (Nat.zero_le _) ?_
  refine u_fill_43 (fun m3 g3 h3 => ?_)
  refine s_return (dc kc_X9_forget 12 rfl) rfl (Nat.zero_le _) (Nat.zero_le _) ?_
  refine hQ m3 (((g1.mono (fun a b k z => by simp at z; simp [z])).tr (g2.mono (fun a b k z => by simp at z; simp [z]))).tr (g3.mono (fun a b k z => by simp at z; simp [z]))) (fun i a b => ⟨?_, ?_, h3 i a b⟩)
  · rw [g3.at (by simp), g2.at (by simp)]; exact h1 i a b
  · rw [g3.at (by simp)]; exact h2 i a b
theorem u_webBecome (hL : Lay G mr) {mi : MI} {g h : Nat} (hg : okI G 15 g) (hh : okI G 15 h) (hQ : ∀ mi', Cg (fun a b k => a == g && (b == 16 || (b == 15 && k == 1))) mi mi' → (∀ i, 0 ≤ i → i < 24 → mi' g 16 i = mi h 16 i) → mi' g 15 1 = mi h 15 1 → Q (vX 0) mi' n mr) : Tx (d+1) mt_X10_become [vR (some (g, 15)), vR (some (h, 15))] mi n mr Q := by
  refine tx_intro (ls := [vR (some (g, 15)), vR (some (h, 15))]) om_X10_become rfl (Nat.le_of_ble_eq_true rfl) ?_
  refine r_aload_n (dc kc_X10_become 0 rfl) rfl <| s_getA (dc kc_X10_become 1 rfl) fl_X10_9 (ly_15_0 hL (by assumption)) <| k_i (dc kc_X10_become 2 rfl) rfl <| r_aload_n (dc kc_X10_become 3 rfl) rfl <| s_getA (dc kc_X10_become 4 rfl) fl_X10_9 (ly_15_0 hL (by assumption)) <| k_i (dc kc_X10_become 5 rfl) rfl <| k_b (dc kc_X10_become 6 rfl) rfl <| s_copy (dc kc_X10_become 7 rfl) rfl rfl cp_X10_23 nat_copy st_copy it_J10 (by first | omega | (simp [up] <;> omega)) (by first | omega | (simp [up] <;> omega)) (by first | omega | (simp [up] <;> omega)) (by first | omega | (simp [up] <;> omega)) (by first | omega | (simp [up] <;> omega)) <| r_aload_n (dc kc_X10_become 8 rfl) rfl <| r_aload_n (dc kc_X10_become 9 rfl) rfl <| s_getI (dc kc_X10_become 10 rfl) fl_X10_15 <| s_putI (dc kc_X10_become 11 rfl) fl_X10_15 <| s_return (dc kc_X10_become 12 rfl) rfl (Nat.zero_le _) (Nat.zero_le _) ?_
  refine hQ _ ((Cg.rf.upA (fun k => by simp)).up (by simp)) (fun i a b => ?_) ?_
  · rw [up_j (by decide), upA_at]
    unfold cpy
    rw [if_pos (by omega), show (0 : Int) + (i - 0) = i by omega]
  · rw [up_at, upA_a (by simp)]
theorem u_watchBecome (hL : Lay G mr) {mi : MI} {g h : Nat} (hg : g < G) (hh : h < G) (hne : g ≠ h) (hQ : ∀ mi', Cg (fun a b _ => a == g && (b == 40 || b == 41 || b == 42 || b == 43)) mi mi' → (mi' g 40 0 = mi h 40 0 ∧ mi' g 40 1 = mi h 40 1 ∧ mi' g 40 2 = mi h 40 2) → (∀ i, 0 ≤ i → i < 12 → mi' g 41 i = mi h 41 i ∧ mi' g 42 i = mi h 42 i ∧ mi' g 43 i = mi h 43 i) → Q (vX 0) mi' n mr) : Tx (d+1) mt_X9_become [vR (some (g, 40)), vR (some (h, 40))] mi n mr Q := by
  have hok : okI G 40 g := hg
  have hok2 : okI G 40 h := hh
  have hne' : h ≠ g := fun z => hne z.symm
  refine tx_intro (ls := [vR (some (g, 40)), vR (some (h, 40))]) om_X9_become rfl (Nat.le_of_ble_eq_true rfl) ?_
  refine r_aload_n (dc kc_X9_become 0 rfl) rfl <| r_aload_n (dc kc_X9_become 1 rfl) rfl <| s_getI (dc kc_X9_become 2 rfl) fl_X9_9 <| s_putI (dc kc_X9_become 3 rfl) fl_X9_9 <| r_aload_n (dc kc_X9_become 4 rfl) rfl <| r_aload_n (dc kc_X9_become 5 rfl) rfl <| s_getI (dc kc_X9_become 6 rfl) fl_X9_15 <| s_putI (dc kc_X9_become 7 rfl) fl_X9_15 <| r_aload_n (dc kc_X9_become 8 rfl) rfl <| r_aload_n (dc kc_X9_become 9 rfl) rfl <| s_getI (dc kc_X9_become 10 rfl) fl_X9_18 <| s_putI (dc kc_X9_become 11 rfl) fl_X9_18 <| r_aload_n (dc kc_X9_become 12 rfl) rfl <| s_getA (dc kc_X9_become 13 rfl) fl_X9_21 (ly_40_3 hL (by assumption)) <| k_i (dc kc_X9_become 14 rfl) rfl <| r_aload_n (dc kc_X9_become 15 rfl) rfl <| s_getA (dc kc_X9_become 16 rfl) fl_X9_21 (ly_40_3 hL (by assumption)) <| k_i (dc kc_X9_become 17 rfl) rfl <| k_b (dc kc_X9_become 18 rfl) rfl <| s_copy (dc kc_X9_become 19 rfl) rfl rfl cp_X9_40 nat_copy st_copy it_J10 (by first | omega | (simp [up] <;> omega)) (by first | omega | (simp [up] <;> omega)) (by first | omega | (simp [up] <;> omega)) (by first | omega | (simp [up] <;> omega)) (by first | omega | (simp [up] <;> omega)) <| r_aload_n (dc kc_X9_become 20 rfl) rfl <| s_getA (dc kc_X9_become 21 rfl) fl_X9_25 (ly_40_4 hL (by assumption)) <| k_i (dc kc_X9_become 22 rfl) rfl <| r_aload_n (dc kc_X9_become 23 rfl) rfl <| s_getA (dc kc_X9_become 24 rfl) fl_X9_25 (ly_40_4 hL (by assumption)) <| k_i (dc kc_X9_become 25 rfl) rfl <| k_b (dc kc_X9_become 26 rfl) rfl <| s_copy (dc kc_X9_become 27 rfl) rfl rfl cp_X9_40 nat_copy st_copy it_J10 (by first | omega | (simp [up] <;> omega)) (by first | omega | (simp [up] <;> omega)) (by first | omega | (simp [up] <;> omega)) (by first | omega | (simp [up] <;> omega)) (by first | omega | (simp [up] <;> omega)) <| r_aload_n (dc kc_X9_become 28 rfl) rfl <| s_getA (dc kc_X9_become 29 rfl) fl_X9_28 (ly_40_5 hL (by assumption)) <| k_i (dc kc_X9_become 30 rfl) rfl <| r_aload_n (dc kc_X9_become 31 rfl) rfl <| s_getA (dc kc_X9_become 32 rfl) fl_X9_28 (ly_40_5 hL (by assumption)) <| k_i (dc kc_X9_become 33 rfl) rfl <| k_b (dc kc_X9_become 34 rfl) rfl <| s_copy (dc kc_X9_become 35 rfl) rfl rfl cp_X9_40 nat_copy st_copy it_J10 (by first | omega | (simp [up] <;> omega)) (by first | omega | (simp [up] <;> omega)) (by first | omega | (simp [up] <;> omega)) (by first | omega | (simp [up] <;> omega)) (by first | omega | (simp [up] <;> omega)) <| s_return (dc kc_X9_become 36 rfl) rfl (Nat.zero_le _) (Nat.zero_le _) ?_
  refine hQ _ ((((((Cg.rf.up (by simp)).up (by simp)).up (by simp)).upA (fun k => by simp)).upA (fun k => by simp)).upA (fun k => by simp)) ?_ (fun i a b => ?_)
  · simp [up, upA, hne, hne']
  · simp [up, upA, cpy, hne, hne', a, b]
end FIL
