/-! the constructors: memory that is not made yet; texts, webs, journals, watches, states -/
def Fz (n : Nat) (mi : MI) (mr : MR) : Prop := ∀ i, n ≤ i → i < 241 → ∀ k : Int, mi (nm i).1 (nm i).2 k = 0 ∧ mr (nm i).1 (nm i).2 k = none
/-- references are the same but at one cell -/
def Cm (a : Ad) (mr mr' : MR) : Prop := ∀ g j k, (g, j) ≠ a → mr' g j k = mr g j k
def Cn (a : Ad) (mi mi' : MI) : Prop := ∀ g j k, (g, j) ≠ a → mi' g j k = mi g j k
theorem Fz.fr {n : Nat} {mi : MI} {mr : MR} (h : Fz n mi mr) (hn : n < 241) : Fr0 n mi mr := h n (Nat.le_refl _) hn
theorem Fz.mv {n N i0 : Nat} {mi mi' : MI} {mr mr' : MR} {a : Ad} (hz : Fz n mi mr) (h0 : nm i0 = a) (hi : i0 < n) (hm : Cn a mi mi') (hr : Cm a mr mr') (hN : n ≤ N) : Fz N mi' mr' := by
  intro i h1 h2 k
  have hne : ((nm i).1, (nm i).2) ≠ a := fun z => by
    have : nm i = nm i0 := by rw [h0]; exact z
    have := nm_inj h2 (by omega) this
    omega
  rw [hm _ _ _ hne, hr _ _ _ hne]
  exact hz i (by omega) h2 k
theorem up_id {mi : MI} {g j : Nat} {k v : Int} (h : mi g j k = v) : up mi g j k v = mi := by
  funext a b c
  unfold up
  split
  · rename_i z
    rw [z.1, z.2.1, z.2.2, h]
  · rfl
theorem Fz.at {n N i : Nat} {g j : Nat} {mi : MI} {mr : MR} (hz : Fz n mi mr) (h : nm i = (g, j)) (h1 : n ≤ i) (h2 : i < 241) (k : Int) : mi g j k = 0 ∧ mr g j k = none := by
  have := hz i h1 h2 k
  rw [h] at this
  exact this
def TxL (x : Nat) (mr : MR) : Prop := mr x 20 2 = some (x, 21) ∧ mr x 20 3 = some (x, 22) ∧ mr x 20 4 = some (x, 23) ∧ mr x 20 5 = some (x, 24) ∧ mr x 20 6 = some (x, 25) ∧ mr x 20 7 = some (x, 26) ∧ mr x 20 8 = some (x, 27)
def JnL (g : Nat) (mr : MR) : Prop := mr g 30 3 = some (g, 31) ∧ mr g 30 4 = some (g, 32) ∧ mr g 30 5 = some (g, 33) ∧ mr g 30 6 = some (g, 34) ∧ mr g 30 7 = some (g, 35) ∧ mr g 30 8 = some (g, 36) ∧ mr g 30 9 = some (g, 37) ∧ mr g 30 10 = some (g, 38)
section INI
variable {d n : Nat} {mr : MR} {mi : MI} {Q : V → MI → Nat → MR → Prop}
theorem i_text {x i0 : Nat} (hz : Fz n mi mr) (h0 : nm i0 = (x, 20)) (hi : i0 < n) (hn : n + 7 ≤ 241) (h1 : nm n = (x, 21)) (h2 : nm (n + 1) = (x, 22)) (h3 : nm (n + 2) = (x, 23)) (h4 : nm (n + 3) = (x, 24)) (h5 : nm (n + 4) = (x, 25)) (h6 : nm (n + 5) = (x, 26)) (h7 : nm (n + 6) = (x, 27)) (c0 : mi x 20 0 = 0) (c1 : mi x 20 1 = 0) (hQ : ∀ mr', Cm (x, 20) mr mr' → TxL x mr' → Q (vX 0) mi (n + 7) mr') : Tx (d+1) mt_X8_init [vR (some (x, 20))] mi n mr Q := by
  refine tx_intro (ls := [vR (some (x, 20))]) om_X8_init rfl (Nat.le_of_ble_eq_true rfl) ?_
  refine r_aload_n (dc kc_X8_init 0 rfl) rfl <| s_objInit (dc kc_X8_init 1 rfl) oi_X8_3 im_obj co_obj <| r_aload_n (dc kc_X8_init 2 rfl) rfl <| k_i (dc kc_X8_init 3 rfl) rfl <| s_putI (dc kc_X8_init 4 rfl) fl_X8_9 <| r_aload_n (dc kc_X8_init 5 rfl) rfl <| k_i (dc kc_X8_init 6 rfl) rfl <| s_putI (dc kc_X8_init 7 rfl) fl_X8_15 <| ?_
  rw [up_id c0, up_id c1]
  refine r_aload_n (dc kc_X8_init 8 rfl) rfl <| k_s (dc kc_X8_init 9 rfl) rfl <| s_newa (dc kc_X8_init 10 rfl) (by first | assumption | rfl) rfl rfl (by first | decide | omega) (by decide) ?_ ac_int (Nat.le_of_ble_eq_true rfl) (Nat.le_of_ble_eq_true rfl) <| s_pAF (dc kc_X8_init 11 rfl) fl_X8_18 rfl (by decide) <| r_aload_n (dc kc_X8_init 12 rfl) rfl <| k_b (dc kc_X8_init 13 rfl) rfl <| s_newa (dc kc_X8_init 14 rfl) (by first | assumption | rfl) rfl rfl (by first | decide | omega) (by decide) ?_ ac_int (Nat.le_of_ble_eq_true rfl) (Nat.le_of_ble_eq_true rfl) <| s_pAF (dc kc_X8_init 15 rfl) fl_X8_22 rfl (by decide) <| r_aload_n (dc kc_X8_init 16 rfl) rfl <| k_b (dc kc_X8_init 17 rfl) rfl <| s_newa (dc kc_X8_init 18 rfl) (by first | assumption | rfl) rfl rfl (by first | decide | omega) (by decide) ?_ ac_int (Nat.le_of_ble_eq_true rfl) (Nat.le_of_ble_eq_true rfl) <| s_pAF (dc kc_X8_init 19 rfl) fl_X8_25 rfl (by decide) <| r_aload_n (dc kc_X8_init 20 rfl) rfl <| k_b (dc kc_X8_init 21 rfl) rfl <| s_newa (dc kc_X8_init 22 rfl) (by first | assumption | rfl) rfl rfl (by first | decide | omega) (by decide) ?_ ac_int (Nat.le_of_ble_eq_true rfl) (Nat.le_of_ble_eq_true rfl) <| s_pAF (dc kc_X8_init 23 rfl) fl_X8_28 rfl (by decide) <| r_aload_n (dc kc_X8_init 24 rfl) rfl <| k_b (dc kc_X8_init 25 rfl) rfl <| s_newa (dc kc_X8_init 26 rfl) (by first | assumption | rfl) rfl rfl (by first | decide | omega) (by decide) ?_ ac_int (Nat.le_of_ble_eq_true rfl) (Nat.le_of_ble_eq_true rfl) <| s_pAF (dc kc_X8_init 27 rfl) fl_X8_31 rfl (by decide) <| r_aload_n (dc kc_X8_init 28 rfl) rfl <| k_b (dc kc_X8_init 29 rfl) rfl <| s_newa (dc kc_X8_init 30 rfl) (by first | assumption | rfl) rfl rfl (by first | decide | omega) (by decide) ?_ ac_int (Nat.le_of_ble_eq_true rfl) (Nat.le_of_ble_eq_true rfl) <| s_pAF (dc kc_X8_init 31 rfl) fl_X8_34 rfl (by decide) <| r_aload_n (dc kc_X8_init 32 rfl) rfl <| k_b (dc kc_X8_init 33 rfl) rfl <| s_newa (dc kc_X8_init 34 rfl) (by first | assumption | rfl) rfl rfl (by first | decide | omega) (by decide) ?_ ac_int (Nat.le_of_ble_eq_true rfl) (Nat.le_of_ble_eq_true rfl) <| s_pAF (dc kc_X8_init 35 rfl) fl_X8_37 rfl (by decide) <| s_return (dc kc_X8_init 36 rfl) rfl (Nat.le_of_ble_eq_true rfl) (Nat.le_of_ble_eq_true rfl) ?_
  all_goals first | exact (hz.mv h0 hi (fun _ _ _ _ => rfl) (fun g j k h => by first | rfl | simp only [upR_a h]) (by omega)).fr (by omega) | skip
  refine hQ _ (fun g j k h => by simp only [upR_a h]) ?_
  unfold TxL
  simp [upR]
theorem i_web {g i0 : Nat} (hz : Fz n mi mr) (h0 : nm i0 = (g, 15)) (hi : i0 < n) (hn : n + 1 ≤ 241) (h1 : nm n = (g, 16)) (c1 : mi g 15 1 = 0) (hQ : ∀ mi' mr', Cn (g, 16) mi mi' → (∀ i, 0 ≤ i → i < 24 → mi' g 16 i = loC i) → Cm (g, 15) mr mr' → mr' g 15 0 = some (g, 16) → Q (vX 0) mi' (n + 1) mr') : Tx (d+3) mt_X10_init [vR (some (g, 15))] mi n mr Q := by
  refine tx_intro (ls := [vR (some (g, 15)), vX 0]) om_X10_init rfl (Nat.le_of_ble_eq_true rfl) ?_
  refine r_aload_n (dc kc_X10_init 0 rfl) rfl <| s_objInit (dc kc_X10_init 1 rfl) oi_X10_3 im_obj co_obj <| r_aload_n (dc kc_X10_init 2 rfl) rfl <| k_b (dc kc_X10_init 3 rfl) rfl <| s_newa (dc kc_X10_init 4 rfl) (by first | assumption | rfl) rfl rfl (by first | decide | omega) (by decide) ?_ ac_int (Nat.le_of_ble_eq_true rfl) (Nat.le_of_ble_eq_true rfl) <| s_pAF (dc kc_X10_init 5 rfl) fl_X10_9 rfl (by decide) <| r_aload_n (dc kc_X10_init 6 rfl) rfl <| k_i (dc kc_X10_init 7 rfl) rfl <| s_putI (dc kc_X10_init 8 rfl) fl_X10_15 <| ?_
  · exact hz.fr (by omega)
  rw [up_id c1]
  have hr : upR mr g 15 0 (some (g, 16)) g 15 0 = some (g, 16) := upR_at
  have hC : Cm (g, 15) mr (upR mr g 15 0 (some (g, 16))) := fun a j k h => upR_a h
  generalize upR mr g 15 0 (some (g, 16)) = mr1 at *
  have loop : ∀ i : Nat, i ≤ 24 → ∀ m : MI, Cn (g, 16) mi m → (∀ j, 0 ≤ j → j < (i : Int) → m g 16 j = loC j) → Run (d+3) mt_X10_init Q (n + 1, mr1, 1, 24) m 19 [vR (some (g, 15)), vI (i : Int)] [] := by
    refine nloop ?_
    intro i hi ih m hm hl
    by_cases he : i < 24
    · refine s_iload_n (dc kc_X10_init 11 rfl) rfl <| k_b (dc kc_X10_init 12 rfl) rfl <| s_icmp_ge (tgt := 41) (dc kc_X10_init 13 rfl) rfl (fun c22 => (?_)) (fun c22 => (r_aload_n (dc kc_X10_init 14 rfl) rfl <| s_getA (dc kc_X10_init 15 rfl) fl_X10_9 hr <| s_iload_n (dc kc_X10_init 16 rfl) rfl <| s_iload_n (dc kc_X10_init 17 rfl) rfl <| c_s1r (dc kc_X10_init 18 rfl) cl_X10_19 rfl (Nat.le_of_ble_eq_true rfl) (Nat.le_of_ble_eq_true rfl) (Nat.le_of_ble_eq_true rfl) <| u_lowestOf (by first | omega | (simp [up] <;> omega)) <| s_iastore (dc kc_X10_init 19 rfl) rfl (by first | omega | (simp [up] <;> omega)) (by first | omega | (simp [up] <;> omega)) <| b_inc1 (dc kc_X10_init 20 rfl) rfl (Nat.le_of_ble_eq_true rfl) rfl (by first | omega | (simp [up] <;> omega)) (by first | omega | (simp [up] <;> omega)) <| s_goto (tgt := 19) (dc kc_X10_init 21 rfl) rfl <| ?_))
      · exfalso; omega
      · refine ih he _ (fun a j k h => by rw [up_a h]; exact hm a j k h) (fun j a b => ?_)
        rw [up_ud]
        by_cases e : j = i
        · rw [e, ud_at]
        · rw [ud_ne e]; exact hl j a (by omega)
    · have : i = 24 := by omega
      subst this
      refine s_iload_n (dc kc_X10_init 11 rfl) rfl <| k_b (dc kc_X10_init 12 rfl) rfl <| s_icmp_ge (tgt := 41) (dc kc_X10_init 13 rfl) rfl (fun c22 => (s_return (dc kc_X10_init 22 rfl) rfl (Nat.le_of_ble_eq_true rfl) (Nat.le_of_ble_eq_true rfl) ?_)) (fun c22 => (?_))
      · exact hQ m mr1 hm hl hC hr
      · exfalso; omega
  refine k_i (dc kc_X10_init 9 rfl) rfl <| t_i1 (dc kc_X10_init 10 rfl) (Nat.le_of_ble_eq_true rfl) rfl <| ?_
  exact loop 0 (Nat.zero_le _) mi (fun _ _ _ _ => rfl) (fun j a b => by omega)
theorem i_journal {g i0 : Nat} (hz : Fz n mi mr) (h0 : nm i0 = (g, 30)) (hi : i0 < n) (hn : n + 8 ≤ 241) (h1 : nm n = (g, 31)) (h2 : nm (n + 1) = (g, 32)) (h3 : nm (n + 2) = (g, 33)) (h4 : nm (n + 3) = (g, 34)) (h5 : nm (n + 4) = (g, 35)) (h6 : nm (n + 5) = (g, 36)) (h7 : nm (n + 6) = (g, 37)) (h8 : nm (n + 7) = (g, 38)) (c0 : mi g 30 0 = 0) (c1 : mi g 30 1 = 0) (hQ : ∀ mr', Cm (g, 30) mr mr' → JnL g mr' → Q (vX 0) (up mi g 30 2 (-1)) (n + 8) mr') : Tx (d+1) mt_X1_init [vR (some (g, 30))] mi n mr Q := by
  refine tx_intro (ls := [vR (some (g, 30))]) om_X1_init rfl (Nat.le_of_ble_eq_true rfl) ?_
  refine r_aload_n (dc kc_X1_init_0 0 rfl) rfl <| s_objInit (dc kc_X1_init_0 1 rfl) oi_X1_3 im_obj co_obj <| r_aload_n (dc kc_X1_init_0 2 rfl) rfl <| k_i (dc kc_X1_init_0 3 rfl) rfl <| s_putI (dc kc_X1_init_0 4 rfl) fl_X1_9 <| r_aload_n (dc kc_X1_init_0 5 rfl) rfl <| k_i (dc kc_X1_init_0 6 rfl) rfl <| s_putI (dc kc_X1_init_0 7 rfl) fl_X1_15 <| r_aload_n (dc kc_X1_init_0 8 rfl) rfl <| k_i (dc kc_X1_init_0 9 rfl) rfl <| s_putI (dc kc_X1_init_0 10 rfl) fl_X1_18 <| ?_
  rw [up_id c0, up_id c1]
  refine r_aload_n (dc kc_X1_init_0 11 rfl) rfl <| k_s (dc kc_X1_init_0 12 rfl) rfl <| s_newa (dc kc_X1_init_0 13 rfl) (by first | assumption | rfl) rfl rfl (by first | decide | omega) (by decide) ?_ ac_int (Nat.le_of_ble_eq_true rfl) (Nat.le_of_ble_eq_true rfl) <| s_pAF (dc kc_X1_init_0 14 rfl) fl_X1_21 rfl (by decide) <| r_aload_n (dc kc_X1_init_0 15 rfl) rfl <| k_s (dc kc_X1_init_0 16 rfl) rfl <| s_newa (dc kc_X1_init_0 17 rfl) (by first | assumption | rfl) rfl rfl (by first | decide | omega) (by decide) ?_ ac_int (Nat.le_of_ble_eq_true rfl) (Nat.le_of_ble_eq_true rfl) <| s_pAF (dc kc_X1_init_0 18 rfl) fl_X1_25 rfl (by decide) <| r_aload_n (dc kc_X1_init_0 19 rfl) rfl <| k_s (dc kc_X1_init_0 20 rfl) rfl <| s_newa (dc kc_X1_init_0 21 rfl) (by first | assumption | rfl) rfl rfl (by first | decide | omega) (by decide) ?_ ac_int (Nat.le_of_ble_eq_true rfl) (Nat.le_of_ble_eq_true rfl) <| s_pAF (dc kc_X1_init_0 22 rfl) fl_X1_28 rfl (by decide) <| r_aload_n (dc kc_X1_init_0 23 rfl) rfl <| k_s (dc kc_X1_init_0 24 rfl) rfl <| s_newa (dc kc_X1_init_0 25 rfl) (by first | assumption | rfl) rfl rfl (by first | decide | omega) (by decide) ?_ ac_int (Nat.le_of_ble_eq_true rfl) (Nat.le_of_ble_eq_true rfl) <| s_pAF (dc kc_X1_init_0 26 rfl) fl_X1_31 rfl (by decide) <| r_aload_n (dc kc_X1_init_0 27 rfl) rfl <| k_s (dc kc_X1_init_0 28 rfl) rfl <| s_newa (dc kc_X1_init_0 29 rfl) (by first | assumption | rfl) rfl rfl (by first | decide | omega) (by decide) ?_ ac_int (Nat.le_of_ble_eq_true rfl) (Nat.le_of_ble_eq_true rfl) <| s_pAF (dc kc_X1_init_0 30 rfl) fl_X1_34 rfl (by decide) <| r_aload_n (dc kc_X1_init_0 31 rfl) rfl <| k_s (dc kc_X1_init_0 32 rfl) rfl <| s_newa (dc kc_X1_init_0 33 rfl) (by first | assumption | rfl) rfl rfl (by first | decide | omega) (by decide) ?_ ac_int (Nat.le_of_ble_eq_true rfl) (Nat.le_of_ble_eq_true rfl) <| s_pAF (dc kc_X1_init_0 34 rfl) fl_X1_37 rfl (by decide) <| r_aload_n (dc kc_X1_init_0 35 rfl) rfl <| k_s (dc kc_X1_init_0 36 rfl) rfl <| s_newa (dc kc_X1_init_0 37 rfl) (by first | assumption | rfl) rfl rfl (by first | decide | omega) (by decide) ?_ ac_int (Nat.le_of_ble_eq_true rfl) (Nat.le_of_ble_eq_true rfl) <| s_pAF (dc kc_X1_init_0 38 rfl) fl_X1_40 rfl (by decide) <| r_aload_n (dc kc_X1_init_0 39 rfl) rfl <| k_s (dc kc_X1_init_1 0 rfl) rfl <| s_newa (dc kc_X1_init_1 1 rfl) (by first | assumption | rfl) rfl rfl (by first | decide | omega) (by decide) ?_ ac_int (Nat.le_of_ble_eq_true rfl) (Nat.le_of_ble_eq_true rfl) <| s_pAF (dc kc_X1_init_1 2 rfl) fl_X1_43 rfl (by decide) <| s_return (dc kc_X1_init_1 3 rfl) rfl (Nat.le_of_ble_eq_true rfl) (Nat.le_of_ble_eq_true rfl) ?_
  all_goals first | exact (hz.mv h0 hi (fun a b k h => up_a h) (fun g j k h => by first | rfl | simp only [upR_a h]) (by omega)).fr (by omega) | skip
  refine hQ _ (fun g j k h => by simp only [upR_a h]) ?_
  unfold JnL
  simp [upR]
theorem i_fill {m : MI} {mr : MR} {n g : Nat} {b : Nat} (hb : b = 41 ∨ b = 42 ∨ b = 43) (hQ : ∀ m', Cn (g, b) m m' → (∀ i, 0 ≤ i → i < 12 → m' g b i = -1) → Q (vX 0) m' n mr) : Tx (d+1) mt_J7_fill_53178 [vR (some (g, b)), vI (-1)] m n mr Q := by
  rcases hb with e | e | e
  · subst e
    exact u_fill_41 (fun m' g1 f => hQ m' (fun a c k h => g1.at (by simp; intro z1 z2; exact h (by rw [z1, z2]))) f)
  · subst e
    exact u_fill_42 (fun m' g1 f => hQ m' (fun a c k h => g1.at (by simp; intro z1 z2; exact h (by rw [z1, z2]))) f)
  · subst e
    exact u_fill_43 (fun m' g1 f => hQ m' (fun a c k h => g1.at (by simp; intro z1 z2; exact h (by rw [z1, z2]))) f)
theorem i_watch {g i0 : Nat} (hz : Fz n mi mr) (h0 : nm i0 = (g, 40)) (hi : i0 < n) (hn : n + 3 ≤ 241) (h1 : nm n = (g, 41)) (h2 : nm (n + 1) = (g, 42)) (h3 : nm (n + 2) = (g, 43)) (c0 : mi g 40 0 = 0) (hQ : ∀ mi' mr', Cg (fun a b _ => a == g && (b == 40 || b == 41 || b == 42 || b == 43)) mi mi' → (mi' g 40 0 = 0 ∧ mi' g 40 1 = -1 ∧ mi' g 40 2 = -1) → (∀ i, 0 ≤ i → i < 12 → mi' g 41 i = -1 ∧ mi' g 42 i = -1 ∧ mi' g 43 i = -1) → Cm (g, 40) mr mr' → (mr' g 40 3 = some (g, 41) ∧ mr' g 40 4 = some (g, 42) ∧ mr' g 40 5 = some (g, 43)) → Q (vX 0) mi' (n + 3) mr') : Tx (d+3) mt_X9_init [vR (some (g, 40))] mi n mr Q := by
  refine tx_intro (ls := [vR (some (g, 40))]) om_X9_init rfl (Nat.le_of_ble_eq_true rfl) ?_
  refine r_aload_n (dc kc_X9_init 0 rfl) rfl <| s_objInit (dc kc_X9_init 1 rfl) oi_X9_3 im_obj co_obj <| r_aload_n (dc kc_X9_init 2 rfl) rfl <| k_i (dc kc_X9_init 3 rfl) rfl <| s_putI (dc kc_X9_init 4 rfl) fl_X9_9 <| r_aload_n (dc kc_X9_init 5 rfl) rfl <| k_i (dc kc_X9_init 6 rfl) rfl <| s_putI (dc kc_X9_init 7 rfl) fl_X9_15 <| r_aload_n (dc kc_X9_init 8 rfl) rfl <| k_i (dc kc_X9_init 9 rfl) rfl <| s_putI (dc kc_X9_init 10 rfl) fl_X9_18 <| ?_
  rw [up_id c0]
  have hm : Cn (g, 40) mi (up (up mi g 40 1 (-1)) g 40 2 (-1)) := fun a b k h => by rw [up_a h, up_a h]
  have hv : up (up mi g 40 1 (-1)) g 40 2 (-1) g 40 0 = 0 ∧ up (up mi g 40 1 (-1)) g 40 2 (-1) g 40 1 = -1 ∧ up (up mi g 40 1 (-1)) g 40 2 (-1) g 40 2 = -1 := ⟨by rw [up_k (by decide), up_k (by decide), c0], by rw [up_k (by decide), up_at], up_at⟩
  generalize up (up mi g 40 1 (-1)) g 40 2 (-1) = m0 at *
  refine r_aload_n (dc kc_X9_init 11 rfl) rfl <| k_b (dc kc_X9_init 12 rfl) rfl <| s_newa (dc kc_X9_init 13 rfl) (by first | assumption | rfl) rfl rfl (by first | decide | omega) (by decide) ?_ ac_int (Nat.le_of_ble_eq_true rfl) (Nat.le_of_ble_eq_true rfl) <| s_pAF (dc kc_X9_init 14 rfl) fl_X9_21 rfl (by decide) <| r_aload_n (dc kc_X9_init 15 rfl) rfl <| k_b (dc kc_X9_init 16 rfl) rfl <| s_newa (dc kc_X9_init 17 rfl) (by first | assumption | rfl) rfl rfl (by first | decide | omega) (by decide) ?_ ac_int (Nat.le_of_ble_eq_true rfl) (Nat.le_of_ble_eq_true rfl) <| s_pAF (dc kc_X9_init 18 rfl) fl_X9_25 rfl (by decide) <| r_aload_n (dc kc_X9_init 19 rfl) rfl <| k_b (dc kc_X9_init 20 rfl) rfl <| s_newa (dc kc_X9_init 21 rfl) (by first | assumption | rfl) rfl rfl (by first | decide | omega) (by decide) ?_ ac_int (Nat.le_of_ble_eq_true rfl) (Nat.le_of_ble_eq_true rfl) <| s_pAF (dc kc_X9_init 22 rfl) fl_X9_28 rfl (by decide) <| ?_
  all_goals first | exact (hz.mv h0 hi hm (fun g j k h => by first | rfl | simp only [upR_a h]) (by omega)).fr (by omega) | skip
  have hC : Cm (g, 40) mr (upR (upR (upR mr g 40 3 (some (g, 41))) g 40 4 (some (g, 42))) g 40 5 (some (g, 43))) := fun g j k h => by simp only [upR_a h]
  have hr : upR (upR (upR mr g 40 3 (some (g, 41))) g 40 4 (some (g, 42))) g 40 5 (some (g, 43)) g 40 3 = some (g, 41) ∧ upR (upR (upR mr g 40 3 (some (g, 41))) g 40 4 (some (g, 42))) g 40 5 (some (g, 43)) g 40 4 = some (g, 42) ∧ upR (upR (upR mr g 40 3 (some (g, 41))) g 40 4 (some (g, 42))) g 40 5 (some (g, 43)) g 40 5 = some (g, 43) := by simp [upR]
  generalize upR (upR (upR mr g 40 3 (some (g, 41))) g 40 4 (some (g, 42))) g 40 5 (some (g, 43)) = mr1 at *
  obtain ⟨r3, r4, r5⟩ := id hr
  refine r_aload_n (dc kc_X9_init 23 rfl) rfl <| c_v0 (dc kc_X9_init 24 rfl) cl_X9_31 rfl (Nat.le_of_ble_eq_true rfl) (Nat.le_of_ble_eq_true rfl) (Nat.le_of_ble_eq_true rfl) ?_
  refine tx_intro (ls := [vR (some (g, 40))]) om_X9_forget rfl (Nat.le_of_ble_eq_true rfl) ?_
  refine r_aload_n (dc kc_X9_forget 0 rfl) rfl <| s_getA (dc kc_X9_forget 1 rfl) fl_X9_21 r3 <| k_i (dc kc_X9_forget 2 rfl) rfl <| c_s2 (dc kc_X9_forget 3 rfl) cl_X9_34 rfl (Nat.le_of_ble_eq_true rfl) (Nat.zero_le _) (Nat.zero_le _) ?_
  refine i_fill (by omega) (fun m1 g1 f1 => ?_)
  refine r_aload_n (dc kc_X9_forget 4 rfl) rfl <| s_getA (dc kc_X9_forget 5 rfl) fl_X9_25 r4 <| k_i (dc kc_X9_forget 6 rfl) rfl <| c_s2 (dc kc_X9_forget 7 rfl) cl_X9_34 rfl (Nat.le_of_ble_eq_true rfl) (Nat.zero_le _) (Nat.zero_le _) ?_
  refine i_fill (by omega) (fun m2 g2 f2 => ?_)
  refine r_aload_n (dc kc_X9_forget 8 rfl) rfl <| s_getA (dc kc_X9_forget 9 rfl) fl_X9_28 r5 <| k_i (dc kc_X9_forget 10 rfl) rfl <| c_s2 (dc kc_X9_forget 11 rfl) cl_X9_34 rfl (Nat.le_of_ble_eq_true rfl) (Nat.zero_le _) (Nat.zero_le _) ?_
  refine i_fill (by omega) (fun m3 g3 f3 => ?_)
  refine s_return (dc kc_X9_forget 12 rfl) rfl (Nat.zero_le _) (Nat.zero_le _) ?_
  refine s_return (dc kc_X9_init 25 rfl) rfl (Nat.le_of_ble_eq_true rfl) (Nat.le_of_ble_eq_true rfl) ?_
  have e40 : ∀ k, m3 g 40 k = m0 g 40 k := fun k => by rw [g3 _ _ _ (by simp), g2 _ _ _ (by simp), g1 _ _ _ (by simp)]
  refine hQ m3 mr1 (fun a b k => ?_) ⟨by rw [e40]; exact hv.1, by rw [e40]; exact hv.2.1, by rw [e40]; exact hv.2.2⟩ (fun i a b => ⟨by rw [g3 _ _ _ (by simp), g2 _ _ _ (by simp)]; exact f1 i a b, by rw [g3 _ _ _ (by simp)]; exact f2 i a b, f3 i a b⟩) hC hr
  by_cases e : a = g ∧ (b = 40 ∨ b = 41 ∨ b = 42 ∨ b = 43)
  · left; simp; omega
  · right
    rw [g3 a b k (fun z => e (by injection z; omega)), g2 a b k (fun z => e (by injection z; omega)), g1 a b k (fun z => e (by injection z; omega)), hm a b k (fun z => e (by injection z; omega))]
end INI
