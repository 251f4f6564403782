/-! the class: the scan, the whole compile -/
section SC2
variable {d n G : Nat} {mr : MR} {Q : V → MI → Nat → MR → Prop}
theorem u_note (hL : Lay G mr) {mi : MI} {w x f : Int} (h0 : 0 ≤ mi 0 45 5) (h1 : mi 0 45 5 < 401) (hQ : Q (vX 0) (up (up (up (up mi 0 46 (mi 0 45 5) w) 0 47 (mi 0 45 5) x) 0 48 (mi 0 45 5) f) 0 45 5 (mi 0 45 5 + 1)) n mr) : Tx (d+1) mt_X0_note [vR (some (0, 45)), vI w, vI x, vI f] mi n mr Q := by
  have e0 : ∀ (b : Nat) (k x : Int) (m : MI), b ≠ 45 → up m 0 b k x 0 45 = m 0 45 := fun b k x m hb => up_j (Ne.symm hb)
  refine tx_intro (ls := [vR (some (0, 45)), vI w, vI x, vI f]) om_X0_note rfl (Nat.le_of_ble_eq_true rfl) ?_
  refine r_aload_n (dc kc_X0_note 0 rfl) rfl <| s_getI (dc kc_X0_note 1 rfl) fl_X0_32 <| r_aload_n (dc kc_X0_note 2 rfl) rfl <| s_getA (dc kc_X0_note 3 rfl) fl_X0_22 (ly_45_2 hL) <| s_alen (dc kc_X0_note 4 rfl) rfl (by decide) <| s_icmp_ge (tgt := 52) (dc kc_X0_note 5 rfl) rfl (fun c9 => (s_return (dc kc_X0_note 30 rfl) rfl (Nat.zero_le _) (Nat.zero_le _) ?_)) (fun c9 => (r_aload_n (dc kc_X0_note 6 rfl) rfl <| s_getA (dc kc_X0_note 7 rfl) fl_X0_22 (ly_45_2 hL) <| r_aload_n (dc kc_X0_note 8 rfl) rfl <| s_getI (dc kc_X0_note 9 rfl) fl_X0_32 <| s_iload_n (dc kc_X0_note 10 rfl) rfl <| s_iastore (dc kc_X0_note 11 rfl) rfl (by first | omega | (simp [up] <;> omega)) (by first | omega | (simp [up] <;> omega)) <| ?_))
  · exfalso; omega
  · refine r_aload_n (dc kc_X0_note 12 rfl) rfl <| s_getA (dc kc_X0_note 13 rfl) fl_X0_26 (ly_45_3 hL) <| r_aload_n (dc kc_X0_note 14 rfl) rfl <| s_getI (dc kc_X0_note 15 rfl) fl_X0_32 <| s_iload_n (dc kc_X0_note 16 rfl) rfl <| s_iastore (dc kc_X0_note 17 rfl) rfl (by first | omega | (simp [up] <;> omega)) (by first | omega | (simp [up] <;> omega)) <| ?_
    simp only [e0 46 _ _ _ (by decide), e0 47 _ _ _ (by decide)]
    refine r_aload_n (dc kc_X0_note 18 rfl) rfl <| s_getA (dc kc_X0_note 19 rfl) fl_X0_29 (ly_45_4 hL) <| r_aload_n (dc kc_X0_note 20 rfl) rfl <| s_getI (dc kc_X0_note 21 rfl) fl_X0_32 <| s_iload_n (dc kc_X0_note 22 rfl) rfl <| s_iastore (dc kc_X0_note 23 rfl) rfl (by first | omega | (simp [up] <;> omega)) (by first | omega | (simp [up] <;> omega)) <| ?_
    simp only [e0 46 _ _ _ (by decide), e0 47 _ _ _ (by decide), e0 48 _ _ _ (by decide)]
    refine r_aload_n (dc kc_X0_note 24 rfl) rfl <| s_dup (dc kc_X0_note 25 rfl) rfl <| s_getI (dc kc_X0_note 26 rfl) fl_X0_32 <| k_i (dc kc_X0_note 27 rfl) rfl <| b_iadd (dc kc_X0_note 28 rfl) (by first | omega | (simp [up] <;> omega)) (by first | omega | (simp [up] <;> omega)) <| s_putI (dc kc_X0_note 29 rfl) fl_X0_32 <| s_return (dc kc_X0_note 30 rfl) rfl (Nat.zero_le _) (Nat.zero_le _) ?_
    simp only [e0 46 _ _ _ (by decide), e0 47 _ _ _ (by decide), e0 48 _ _ _ (by decide)]
    exact hQ
theorem u_scanToken (hL : Lay G mr) {mi : MI} {f N : Int} (hf0 : 0 ≤ f) (hf1 : f < N) (hN : N ≤ 400) (ht : 0 ≤ mi 0 1 f ∧ mi 0 1 f ≤ 255) (h0 : 0 ≤ mi 0 45 5) (h1 : mi 0 45 5 < 401) (hQ : Q (vX 0) (up (up (up (up mi 0 46 (mi 0 45 5) (tkF (mi 0 1) N f)) 0 47 (mi 0 45 5) (nuF (mi 0 1) N f)) 0 48 (mi 0 45 5) f) 0 45 5 (mi 0 45 5 + 1)) n mr) : Tx (d+7) mt_X0_scanToken [vR (some (0, 45)), vR (some (0, 1)), vI f, vI (ndE (mi 0 1) N f)] mi n mr Q := by
  have hb := ndE_bd (t := mi 0 1) hf1
  have hdg := ndE_dg (t := mi 0 1) hf1
  unfold tkF nuF at hQ
  rw [if_neg (by omega)] at hQ
  have hdj : dgB (mi 0 1 f) = true → ∀ j, f ≤ j → j < ndE (mi 0 1) N f → 48 ≤ mi 0 1 j ∧ mi 0 1 j ≤ 57 := fun z j j0 j1 => by
    have hl : ¬ ltB (mi 0 1 f) = true := fun w => by have := ltB_t.mp w; have := dgB_t.mp z; omega
    have e : ndE (mi 0 1) N f = rnE dgB (mi 0 1) (N - f).toNat f := by unfold ndE; rw [if_neg hl, if_pos z]
    rw [e] at j1
    exact dgB_t.mp (rnE_in _ f j j0 j1)
  generalize ndE (mi 0 1) N f = e at *
  refine tx_intro (ls := [vR (some (0, 45)), vR (some (0, 1)), vI f, vI e]) om_X0_scanToken rfl (Nat.le_of_ble_eq_true rfl) ?_
  refine r_aload_n (dc kc_X0_scanToken 0 rfl) rfl <| s_iload_n (dc kc_X0_scanToken 1 rfl) rfl <| s_iaload (dc kc_X0_scanToken 2 rfl) rfl (by first | omega | (simp [up] <;> omega)) (by first | omega | (simp [up] <;> omega)) <| c_s1r (dc kc_X0_scanToken 3 rfl) cl_X0_178 rfl (Nat.le_of_ble_eq_true rfl) (Nat.zero_le _) (Nat.zero_le _) <| u_isLetter <| s_if_eqb (tgt := 24) (dc kc_X0_scanToken 4 rfl) rfl (fun c6 => (r_aload_n (dc kc_X0_scanToken 14 rfl) rfl <| s_iload_n (dc kc_X0_scanToken 15 rfl) rfl <| s_iaload (dc kc_X0_scanToken 16 rfl) rfl (by first | omega | (simp [up] <;> omega)) (by first | omega | (simp [up] <;> omega)) <| c_s1r (dc kc_X0_scanToken 17 rfl) cl_X0_184 rfl (Nat.le_of_ble_eq_true rfl) (Nat.zero_le _) (Nat.zero_le _) <| u_cisDigit <| s_if_eqb (tgt := 49) (dc kc_X0_scanToken 18 rfl) rfl (fun c30 => (r_aload_n (dc kc_X0_scanToken 28 rfl) rfl <| k_b (dc kc_X0_scanToken 29 rfl) rfl <| r_aload_n (dc kc_X0_scanToken 30 rfl) rfl <| s_iload_n (dc kc_X0_scanToken 31 rfl) rfl <| s_iaload (dc kc_X0_scanToken 32 rfl) rfl (by first | omega | (simp [up] <;> omega)) (by first | omega | (simp [up] <;> omega)) <| b_iadd (dc kc_X0_scanToken 33 rfl) (by first | omega | (simp [up] <;> omega)) (by first | omega | (simp [up] <;> omega)) <| k_i (dc kc_X0_scanToken 34 rfl) rfl <| s_iload_n (dc kc_X0_scanToken 35 rfl) rfl <| c_v3 (dc kc_X0_scanToken 36 rfl) cl_X0_171 rfl (Nat.le_of_ble_eq_true rfl) (Nat.zero_le _) (Nat.zero_le _) ?_)) (fun c30 => (r_aload_n (dc kc_X0_scanToken 19 rfl) rfl <| k_b (dc kc_X0_scanToken 20 rfl) rfl <| r_aload_n (dc kc_X0_scanToken 21 rfl) rfl <| s_iload_n (dc kc_X0_scanToken 22 rfl) rfl <| s_iload_n (dc kc_X0_scanToken 23 rfl) rfl <| c_s3r (dc kc_X0_scanToken 24 rfl) cl_X0_187 rfl (Nat.le_of_ble_eq_true rfl) (Nat.zero_le _) (Nat.zero_le _) ?_)))) (fun c6 => (r_aload_n (dc kc_X0_scanToken 5 rfl) rfl <| r_aload_n (dc kc_X0_scanToken 6 rfl) rfl <| s_iload_n (dc kc_X0_scanToken 7 rfl) rfl <| s_iload_n (dc kc_X0_scanToken 8 rfl) rfl <| c_s3r (dc kc_X0_scanToken 9 rfl) cl_X0_181 rfl (Nat.le_of_ble_eq_true rfl) (Nat.zero_le _) (Nat.zero_le _) ?_))
  · have hl : ¬ ltB (mi 0 1 f) = true := fun z => c6 (ltB_t.mp z)
    have hd : ¬ dgB (mi 0 1 f) = true := fun z => c30 (dgB_t.mp z)
    rw [if_neg hl, if_neg hd, if_neg (fun z => hd z.2)] at hQ
    refine u_note hL h0 h1 ?_
    refine s_return (dc kc_X0_scanToken 37 rfl) rfl (Nat.zero_le _) (Nat.zero_le _) ?_
    exact hQ
  · have hl : ¬ ltB (mi 0 1 f) = true := fun z => c6 (ltB_t.mp z)
    have hd : dgB (mi 0 1 f) = true := dgB_t.mpr c30
    rw [if_neg hl, if_pos hd, if_pos ⟨hf1, hd⟩] at hQ
    refine u_numberAt hf0 (by omega) (by omega) (hdj hd) ?_
    refine s_iload_n (dc kc_X0_scanToken 25 rfl) rfl <| c_v3 (dc kc_X0_scanToken 26 rfl) cl_X0_171 rfl (Nat.le_of_ble_eq_true rfl) (Nat.zero_le _) (Nat.zero_le _) ?_
    refine u_note hL h0 h1 ?_
    refine s_goto (tgt := 61) (dc kc_X0_scanToken 27 rfl) rfl <| s_return (dc kc_X0_scanToken 37 rfl) rfl (Nat.zero_le _) (Nat.zero_le _) ?_
    exact hQ
  · have hl : ltB (mi 0 1 f) = true := ltB_t.mpr c6
    have hd : ¬ dgB (mi 0 1 f) = true := fun z => by have := dgB_t.mp z; omega
    rw [if_pos hl, if_neg (fun z => hd z.2)] at hQ
    refine u_wordAt hf0 (by omega) (by omega) ?_
    refine k_i (dc kc_X0_scanToken 10 rfl) rfl <| s_iload_n (dc kc_X0_scanToken 11 rfl) rfl <| c_v3 (dc kc_X0_scanToken 12 rfl) cl_X0_171 rfl (Nat.le_of_ble_eq_true rfl) (Nat.zero_le _) (Nat.zero_le _) ?_
    refine u_note hL h0 h1 ?_
    refine s_goto (tgt := 61) (dc kc_X0_scanToken 13 rfl) rfl <| s_return (dc kc_X0_scanToken 37 rfl) rfl (Nat.zero_le _) (Nat.zero_le _) ?_
    exact hQ
/-- the tokens noted so far, up to place q -/
def SCq (t : Int → Int) (N : Int) (m : MI) (q : Int) : Prop := (0 ≤ m 0 45 5 ∧ m 0 45 5 ≤ q) ∧ (∀ j, 0 ≤ j → j < m 0 45 5 → m 0 46 j = tkF t N (m 0 48 j) ∧ m 0 47 j = nuF t N (m 0 48 j) ∧ (0 ≤ m 0 48 j ∧ m 0 48 j < N)) ∧ (∀ j, 0 ≤ j → j + 1 < m 0 45 5 → m 0 48 (j + 1) = nxF t N (m 0 48 j)) ∧ (0 < m 0 45 5 → nxF t N (m 0 48 (m 0 45 5 - 1)) = skp t N q ∧ m 0 48 0 = skp t N 0) ∧ (m 0 45 5 = 0 → skp t N q = skp t N 0)
theorem tkF_23 {t : Int → Int} {N f : Int} (ht : 0 ≤ t f) (h : f < N) : tkF t N f ≠ 23 := by
  unfold tkF
  have := wno_rg (byt t (ndE t N f - f).toNat f)
  rw [if_neg (by omega)]
  split
  · omega
  · split <;> omega
theorem SCq.note {t : Int → Int} {N q a b c : Int} {m : MI} (h : SCq t N m q) (hq0 : 0 ≤ q) (hs : skp t N q = q) (ha : a = tkF t N q) (hb : b = nuF t N q) (hlt : q < N) (hqE : c = ndE t N q) : SCq t N (up (up (up (up m 0 46 (m 0 45 5) a) 0 47 (m 0 45 5) b) 0 48 (m 0 45 5) q) 0 45 5 (m 0 45 5 + 1)) c := by
  obtain ⟨⟨a1, a2⟩, a3, a4, a5, a6⟩ := h
  have hbd := ndE_bd (t := t) hlt
  generalize hS : m 0 45 5 = S at *
  have e5 : up (up (up (up m 0 46 S a) 0 47 S b) 0 48 S q) 0 45 5 (S + 1) 0 45 5 = S + 1 := up_at
  have e46 : up (up (up (up m 0 46 S a) 0 47 S b) 0 48 S q) 0 45 5 (S + 1) 0 46 = ud (m 0 46) S a := by rw [up_j (by decide), up_j (by decide), up_j (by decide), up_ud]
  have e47 : up (up (up (up m 0 46 S a) 0 47 S b) 0 48 S q) 0 45 5 (S + 1) 0 47 = ud (m 0 47) S b := by rw [up_j (by decide), up_j (by decide), up_ud, up_j (by decide)]
  have e48 : up (up (up (up m 0 46 S a) 0 47 S b) 0 48 S q) 0 45 5 (S + 1) 0 48 = ud (m 0 48) S q := by rw [up_j (by decide), up_ud, up_j (by decide), up_j (by decide)]
  unfold SCq
  rw [e5, e46, e47, e48]
  refine ⟨⟨by omega, by omega⟩, fun j j0 j1 => ?_, fun j j0 j1 => ?_, fun _ => ⟨?_, ?_⟩, fun z => by omega⟩
  · by_cases ej : j = S
    · rw [ej, ud_at, ud_at, ud_at]
      exact ⟨ha, hb, hq0, hlt⟩
    · rw [ud_ne ej, ud_ne ej, ud_ne ej]
      exact a3 j j0 (by omega)
  · by_cases ej : j + 1 = S
    · rw [ej, ud_at, ud_ne (by omega)]
      have := (a5 (by omega)).1
      rw [show S - 1 = j by omega, hs] at this
      exact this.symm
    · rw [ud_ne ej, ud_ne (by omega)]
      exact a4 j j0 (by omega)
  · rw [show S + 1 - 1 = S by omega, ud_at, hqE]
    rfl
  · by_cases e0 : (0 : Int) = S
    · rw [← e0, ud_at, ← a6 e0.symm, hs]
    · rw [ud_ne e0]
      exact (a5 (by omega)).2
theorem u_scan (hL : Lay G mr) {mi : MI} {N : Int} (hN0 : 0 ≤ N) (hN : N ≤ 400) (ht : ∀ i, 0 ≤ i → i < N → 0 ≤ mi 0 1 i ∧ mi 0 1 i ≤ 255) (hQ : ∀ mi', Cg (fun a b k => a == 0 && ((b == 45 && k == 5) || (decide (46 ≤ b) && decide (b ≤ 48)))) mi mi' → CK (tkF (mi 0 1) N) (nuF (mi 0 1) N) (nxF (mi 0 1) N) N mi' → mi' 0 48 0 = skp (mi 0 1) N 0 → Q (vX 0) mi' n mr) : Tx (d+8) mt_X0_scan [vR (some (0, 45)), vR (some (0, 1)), vI N] mi n mr Q := by
  refine tx_intro (ls := [vR (some (0, 45)), vR (some (0, 1)), vI N, vX 0, vX 0, vX 0]) om_X0_scan rfl (Nat.le_of_ble_eq_true rfl) ?_
  have loop : ∀ i : Nat, i ≤ N.toNat → ∀ (m : MI) (q : Int) (x5 : V), Cg (fun a b k => a == 0 && ((b == 45 && k == 5) || (decide (46 ≤ b) && decide (b ≤ 48)))) mi m → (i : Int) ≤ q → q ≤ N → SCq (mi 0 1) N m q → Run (d+8) mt_X0_scan Q (n, mr, 0, 0) m 10 [vR (some (0, 45)), vR (some (0, 1)), vI N, vI q, vI (i : Int), x5] [] := by
    refine nloop ?_
    intro i hi ih m q x5 gm hq hqN hS
    have e1 : m 0 1 = mi 0 1 := gm.row (fun k => by simp)
    have fin : q = N → Run (d+8) mt_X0_scan Q (n, mr, 0, 0) m 54 [vR (some (0, 45)), vR (some (0, 1)), vI N, vI q, vI (i : Int), x5] [] := fun hqe => by
      subst hqe
      obtain ⟨⟨a1, a2⟩, a3, a4, a5, a6⟩ := hS
      refine r_aload_n (dc kc_X0_scan 32 rfl) rfl <| k_b (dc kc_X0_scan 33 rfl) rfl <| k_i (dc kc_X0_scan 34 rfl) rfl <| s_iload_n (dc kc_X0_scan 35 rfl) rfl <| c_v3 (dc kc_X0_scan 36 rfl) cl_X0_171 rfl (Nat.le_of_ble_eq_true rfl) (Nat.zero_le _) (Nat.zero_le _) ?_
      refine u_note hL a1 (by omega) ?_
      refine s_return (dc kc_X0_scan 37 rfl) rfl (Nat.zero_le _) (Nat.zero_le _) ?_
      refine hQ _ ((((gm.up (by simp)).up (by simp)).up (by simp)).up (by simp)) ?_ ?_
      · generalize hS : m 0 45 5 = S at *
        have hsq : skp (mi 0 1) q q = q := skp_id (fun z => by omega) (Int.le_refl _)
        have e5 : up (up (up (up m 0 46 S 23) 0 47 S 0) 0 48 S q) 0 45 5 (S + 1) 0 45 5 = S + 1 := up_at
        have e46 : up (up (up (up m 0 46 S 23) 0 47 S 0) 0 48 S q) 0 45 5 (S + 1) 0 46 = ud (m 0 46) S 23 := by rw [up_j (by decide), up_j (by decide), up_j (by decide), up_ud]
        have e47 : up (up (up (up m 0 46 S 23) 0 47 S 0) 0 48 S q) 0 45 5 (S + 1) 0 47 = ud (m 0 47) S 0 := by rw [up_j (by decide), up_j (by decide), up_ud, up_j (by decide)]
        have e48 : up (up (up (up m 0 46 S 23) 0 47 S 0) 0 48 S q) 0 45 5 (S + 1) 0 48 = ud (m 0 48) S q := by rw [up_j (by decide), up_ud, up_j (by decide), up_j (by decide)]
        have t23 : tkF (mi 0 1) q q = 23 := if_pos (Int.le_refl _)
        have n0 : nuF (mi 0 1) q q = 0 := if_neg (fun z => by omega)
        unfold CK
        rw [e5, e46, e47, e48]
        refine ⟨⟨by omega, by omega⟩, fun j j0 j1 => ?_⟩
        by_cases ej : j = S
        · rw [ej, ud_at, ud_at, ud_at, t23, n0]
          exact ⟨rfl, rfl, ⟨hN0, Int.le_refl _⟩, fun z => absurd rfl z⟩
        · rw [ud_ne ej, ud_ne ej, ud_ne ej]
          obtain ⟨b1, b2, b3, b4⟩ := a3 j j0 (by omega)
          refine ⟨b1, b2, ⟨b3, by omega⟩, fun _ => ⟨by omega, ?_⟩⟩
          by_cases ej2 : j + 1 = S
          · rw [ej2, ud_at]
            have := (a5 (by omega)).1
            rw [show S - 1 = j by omega, hsq] at this
            exact this.symm
          · rw [ud_ne ej2]
            exact a4 j j0 (by omega)
      · rw [up_j (by decide), up_ud]
        by_cases e0 : (0 : Int) = m 0 45 5
        · rw [← e0, ud_at, ← a6 e0.symm]
          exact (skp_id (fun z => by omega) (Int.le_refl _)).symm
        · rw [ud_ne e0, up_j (by decide), up_j (by decide)]
          exact (a5 (by omega)).2
    by_cases hc : q < N
    · have ih := ih (by omega)
      rw [show ((i + 1 : Nat) : Int) = (i : Int) + 1 by omega] at ih
      have hbd := ndE_bd (t := mi 0 1) hc
      refine s_iload (dc kc_X0_scan 7 rfl) rfl <| s_iload_n (dc kc_X0_scan 8 rfl) rfl <| s_icmp_ge (tgt := 54) (dc kc_X0_scan 9 rfl) rfl (fun c13 => (?_)) (fun c13 => (s_iload_n (dc kc_X0_scan 10 rfl) rfl <| s_iload_n (dc kc_X0_scan 11 rfl) rfl <| s_icmp_ge (tgt := 54) (dc kc_X0_scan 12 rfl) rfl (fun c18 => (?_)) (fun c18 => (r_aload_n (dc kc_X0_scan 13 rfl) rfl <| s_iload_n (dc kc_X0_scan 14 rfl) rfl <| s_iload_n (dc kc_X0_scan 15 rfl) rfl <| c_s3r (dc kc_X0_scan 16 rfl) cl_X0_163 rfl (Nat.le_of_ble_eq_true rfl) (Nat.zero_le _) (Nat.zero_le _) ?_))))
      · exfalso; omega
      · exfalso; omega
      · refine u_endOfToken (by omega) hc hN ?_
        rw [e1]
        refine t_i5 (dc kc_X0_scan 17 rfl) (Nat.le_of_ble_eq_true rfl) rfl <| r_aload_n (dc kc_X0_scan 18 rfl) rfl <| s_iload_n (dc kc_X0_scan 19 rfl) rfl <| s_iaload (dc kc_X0_scan 20 rfl) rfl (by first | omega | (simp [up] <;> omega)) (by first | omega | (simp [up] <;> omega)) <| k_b (dc kc_X0_scan 21 rfl) rfl <| s_icmp_eq (tgt := 45) (dc kc_X0_scan 22 rfl) rfl (fun c34 => (?_)) (fun c34 => (r_aload_n (dc kc_X0_scan 23 rfl) rfl <| r_aload_n (dc kc_X0_scan 24 rfl) rfl <| s_iload_n (dc kc_X0_scan 25 rfl) rfl <| s_iload (dc kc_X0_scan 26 rfl) rfl <| c_v3 (dc kc_X0_scan 27 rfl) cl_X0_167 rfl (Nat.le_of_ble_eq_true rfl) (Nat.zero_le _) (Nat.zero_le _) ?_))
        · rename_i c34
          rw [e1] at c34
          have e2 : ndE (mi 0 1) N q = q + 1 := by
            unfold ndE
            rw [if_neg (fun z => by have := ltB_t.mp z; omega), if_neg (fun z => by have := dgB_t.mp z; omega)]
          rw [e2]
          refine s_iload (dc kc_X0_scan 28 rfl) rfl <| t_i3 (dc kc_X0_scan 29 rfl) (Nat.le_of_ble_eq_true rfl) rfl <| b_inc4 (dc kc_X0_scan 30 rfl) rfl (Nat.le_of_ble_eq_true rfl) rfl (by first | omega | (simp [up] <;> omega)) (by first | omega | (simp [up] <;> omega)) <| s_goto (tgt := 10) (dc kc_X0_scan 31 rfl) rfl <| ?_
          refine ih m (q + 1) _ gm (by omega) (by omega) ?_
          have := skp_1 (t := mi 0 1) hc c34
          obtain ⟨⟨a1, a2⟩, a3, a4, a5, a6⟩ := hS
          rw [this] at a5 a6
          exact ⟨⟨a1, by omega⟩, a3, a4, a5, a6⟩
        · rename_i c34
          rw [e1] at c34
          have hs := hS.1
          rw [← e1]
          refine u_scanToken hL (N := N) (by omega) hc hN (by rw [e1]; exact ht q (by omega) hc) (by omega) (by omega) ?_
          rw [e1]
          refine s_iload (dc kc_X0_scan 28 rfl) rfl <| t_i3 (dc kc_X0_scan 29 rfl) (Nat.le_of_ble_eq_true rfl) rfl <| b_inc4 (dc kc_X0_scan 30 rfl) rfl (Nat.le_of_ble_eq_true rfl) rfl (by first | omega | (simp [up] <;> omega)) (by first | omega | (simp [up] <;> omega)) <| s_goto (tgt := 10) (dc kc_X0_scan 31 rfl) rfl <| ?_
          refine ih _ _ _ ((((gm.up (by simp)).up (by simp)).up (by simp)).up (by simp)) (by omega) hbd.2 ?_
          exact hS.note (by omega) (skp_id (fun _ => c34) hqN) rfl rfl hc rfl
    · refine s_iload (dc kc_X0_scan 7 rfl) rfl <| s_iload_n (dc kc_X0_scan 8 rfl) rfl <| s_icmp_ge (tgt := 54) (dc kc_X0_scan 9 rfl) rfl (fun c13 => (?_)) (fun c13 => (s_iload_n (dc kc_X0_scan 10 rfl) rfl <| s_iload_n (dc kc_X0_scan 11 rfl) rfl <| s_icmp_ge (tgt := 54) (dc kc_X0_scan 12 rfl) rfl (fun c18 => (?_)) (fun c18 => (?_))))
      · exact fin (by omega)
      · exact fin (by omega)
      · exfalso; omega
  refine r_aload_n (dc kc_X0_scan 0 rfl) rfl <| k_i (dc kc_X0_scan 1 rfl) rfl <| s_putI (dc kc_X0_scan 2 rfl) fl_X0_32 <| k_i (dc kc_X0_scan 3 rfl) rfl <| t_i3 (dc kc_X0_scan 4 rfl) (Nat.le_of_ble_eq_true rfl) rfl <| k_i (dc kc_X0_scan 5 rfl) rfl <| t_i4 (dc kc_X0_scan 6 rfl) (Nat.le_of_ble_eq_true rfl) rfl <| ?_
  refine loop 0 (Nat.zero_le _) _ 0 _ (Cg.rf.up (by simp)) (by omega) hN0 ?_
  refine ⟨⟨by rw [up_at]; omega, by rw [up_at]; omega⟩, fun j j0 j1 => ?_, fun j j0 j1 => ?_, fun z => ?_, fun _ => rfl⟩
  · rw [up_at] at j1; omega
  · rw [up_at] at j1; omega
  · rw [up_at] at z; omega
theorem u_tclear (hL : Lay G mr) {mi : MI} (hQ : Q (vX 0) (up (up mi 20 20 0 0) 20 20 1 0) n mr) : Tx (d+1) mt_X8_clear [vR (some (20, 20))] mi n mr Q := by
  have hok : okI G 20 20 := ok20
  refine tx_intro (ls := [vR (some (20, 20))]) om_X8_clear rfl (Nat.le_of_ble_eq_true rfl) ?_
  refine r_aload_n (dc kc_X8_clear 0 rfl) rfl <| k_i (dc kc_X8_clear 1 rfl) rfl <| s_putI (dc kc_X8_clear 2 rfl) fl_X8_9 <| r_aload_n (dc kc_X8_clear 3 rfl) rfl <| k_i (dc kc_X8_clear 4 rfl) rfl <| s_putI (dc kc_X8_clear 5 rfl) fl_X8_15 <| s_return (dc kc_X8_clear 6 rfl) rfl (Nat.zero_le _) (Nat.zero_le _) ?_
  exact hQ
/-- the whole text of a tape, laws (0) or lines (1) -/
def cmpT (t : Int → Int) (N o : Int) : Int ⊕ List RowT := cmpG (finR (tkF t N) (nuF t N) (nxF t N) o) (tkF t N) (nxF t N) 12 (skp t N 0)
theorem u_compile (hL : Lay G mr) {mi : MI} {N o : Int} (hN0 : 0 ≤ N) (hN : N ≤ 400) (ht : ∀ i, 0 ≤ i → i < N → 0 ≤ mi 0 1 i ∧ mi 0 1 i ≤ 255) (ho1 : o = 0 ∨ o = 1)
    (hQ1 : ∀ p, cmpT (mi 0 1) N o = .inl p → 0 ≤ p → ∀ mi', Cg pKc mi mi' → Q (vI p) mi' n mr)
    (hQ2 : ∀ L, cmpT (mi 0 1) N o = .inr L → ∀ mi', Cg pKc mi mi' → Rws mi' L → mi' 20 20 0 = L.length → mi' 20 20 1 = sml L → L.length ≤ 12 → sml L ≤ 400 → Q (vI (-1)) mi' n mr) : Tx (d+9) mt_X0_compile [vR (some (0, 45)), vR (some (0, 1)), vI N, vI o] mi n mr Q := by
  refine tx_intro (ls := [vR (some (0, 45)), vR (some (0, 1)), vI N, vI o, vX 0, vX 0]) om_X0_compile rfl (Nat.le_of_ble_eq_true rfl) ?_
  refine r_aload_n (dc kc_X0_compile_0 0 rfl) rfl <| r_aload_n (dc kc_X0_compile_0 1 rfl) rfl <| s_iload_n (dc kc_X0_compile_0 2 rfl) rfl <| r_aload_n (dc kc_X0_compile_0 3 rfl) rfl <| s_alen (dc kc_X0_compile_0 4 rfl) rfl (by decide) <| c_s2r (dc kc_X0_compile_0 5 rfl) cl_X0_57 rfl (Nat.le_of_ble_eq_true rfl) (Nat.zero_le _) (Nat.zero_le _) <| u_min <| c_v2 (dc kc_X0_compile_0 6 rfl) cl_X0_63 rfl (Nat.le_of_ble_eq_true rfl) (Nat.zero_le _) (Nat.zero_le _) ?_
  rw [show min N ((400 : Nat) : Int) = N by omega]
  refine u_scan hL hN0 hN ht (fun m1 g1 hK hp0 => ?_)
  refine r_aload_n (dc kc_X0_compile_0 7 rfl) rfl <| s_iload_n (dc kc_X0_compile_0 8 rfl) rfl <| s_putZ (dc kc_X0_compile_0 9 rfl) fl_X0_18 (by first | exact Or.inl rfl | exact Or.inr rfl | exact bi_01 | assumption) <| r_aload_n (dc kc_X0_compile_0 10 rfl) rfl <| k_i (dc kc_X0_compile_0 11 rfl) rfl <| s_putI (dc kc_X0_compile_0 12 rfl) fl_X0_54 <| r_aload_n (dc kc_X0_compile_0 13 rfl) rfl <| s_getO (dc kc_X0_compile_0 14 rfl) fl_X0_12 (ly_45_0 hL) <| c_v0 (dc kc_X0_compile_0 15 rfl) cl_X0_67 rfl (Nat.le_of_ble_eq_true rfl) (Nat.zero_le _) (Nat.zero_le _) ?_
  refine u_tclear hL ?_
  refine r_aload_n (dc kc_X0_compile_0 16 rfl) rfl <| k_i (dc kc_X0_compile_0 17 rfl) rfl <| c_v1 (dc kc_X0_compile_0 18 rfl) cl_X0_70 rfl (Nat.le_of_ble_eq_true rfl) (Nat.zero_le _) (Nat.zero_le _) ?_
  generalize hm2 : up (up (up (up m1 0 45 1 o) 0 45 12 (-1)) 20 20 0 0) 20 20 1 0 = m2
  have g2 : Cg pKc m1 m2 := by
    rw [← hm2]
    exact (((Cg.rf.up (by simp [pKc])).up (by simp [pKc])).up (by simp [pKc])).up (by simp [pKc])
  have hK2 : CK (tkF (mi 0 1) N) (nuF (mi 0 1) N) (nxF (mi 0 1) N) N m2 := by
    have e5 : m2 0 45 5 = m1 0 45 5 := by rw [← hm2]; simp [up]
    have e46 : m2 0 46 = m1 0 46 := by rw [← hm2, up_j (by decide), up_j (by decide), up_j (by decide), up_j (by decide)]
    have e47 : m2 0 47 = m1 0 47 := by rw [← hm2, up_j (by decide), up_j (by decide), up_j (by decide), up_j (by decide)]
    have e48 : m2 0 48 = m1 0 48 := by rw [← hm2, up_j (by decide), up_j (by decide), up_j (by decide), up_j (by decide)]
    unfold CK at *
    rw [e5, e46, e47, e48]
    exact hK
  have h48 : m2 0 48 0 = skp (mi 0 1) N 0 := by
    rw [← hm2, up_j (by decide), up_j (by decide), up_j (by decide), up_j (by decide)]
    exact hp0
  have k1 := hK2.1
  have gm2 : Cg pKc mi m2 := (g1.mono (fun a b k z => by simp [pKc] at z ⊢; omega)).tr g2
  refine u_goTo hL (by omega) (by omega) (by omega) ?_
  refine k_i (dc kc_X0_compile_0 19 rfl) rfl <| t_i4 (dc kc_X0_compile_0 20 rfl) (Nat.le_of_ble_eq_true rfl) rfl <| k_i (dc kc_X0_compile_0 21 rfl) rfl <| t_i5 (dc kc_X0_compile_0 22 rfl) (Nat.le_of_ble_eq_true rfl) rfl <| ?_
  obtain ⟨q1, q2, q3, q4⟩ := hK2.2 0 (by omega) (by omega)
  have g3 : Cg pKc m2 (up (up m2 0 45 7 0) 0 45 6 (m2 0 46 0)) := (Cg.rf.up (by simp [pKc])).up (by simp [pKc])
  refine u_cloop hL (F := finR (tkF (mi 0 1) N) (nuF (mi 0 1) N) (nxF (mi 0 1) N) o) rfl (TkE_F ht) (hK2.mv (B := 0) (R := 0) ((Cg.rf.up (by simp [pKr])).up (by simp [pKr]))) ⟨⟨by simp [up], by simp [up]; omega, by simp [up]; exact h48⟩, ?_, ?_, ?_, ?_⟩ hN ?_ ho1 (fun p hp p0 m4 g4 => ?_) (fun L hLL m4 g4 r1 r2 r3 r4 r5 => ?_)
  · rw [up_at, q1, h48]
  · rw [up_k (by decide), up_k (by decide), ← hm2]; simp [up]
  · rw [up_g (by decide), up_g (by decide), ← hm2]; simp [up]
  · rw [up_g (by decide), up_g (by decide), ← hm2]; simp [up]
  · rw [up_k (by decide), up_k (by decide), ← hm2]; simp [up]
  · exact hQ1 p hp p0 m4 ((gm2.tr g3).tr g4)
  · exact hQ2 L hLL m4 ((gm2.tr g3).tr g4) r1 r2 r3 r4 r5
end SC2
