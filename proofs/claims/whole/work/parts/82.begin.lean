/-! the class: the prices without a copy, the mender begins -/
def Wri (ρ : Int → Int) (s a b j : Int) : Prop := ∃ w, a ≤ w ∧ w < b ∧ ρ (646 + 7 * w + 2) = j ∧ 0 ≤ ρ (646 + 7 * w + 1) ∧ s ≤ ρ (646 + 7 * w)
theorem InvW_up {ρ : Int → Int} (h : InvW ρ) : ∀ (r : Nat) (w : Int), 0 ≤ w → w + r < ρ 8 → ρ (646 + 7 * w) ≤ ρ (646 + 7 * (w + r))
  | 0, w, _, _ => by rw [show w + ((0 : Nat) : Int) = w by omega]; exact Int.le_refl _
  | r + 1, w, h0, h1 => by
    have a := InvW_up h r w h0 (by omega)
    have b := h.2.1 (w + r) (by omega) (by omega)
    rw [show w + ((r + 1 : Nat) : Int) = w + r + 1 by omega]
    omega
def pBp (a b : Nat) (_ : Int) : Bool := a == 0 && b == 64
section MD5
variable {d n G : Nat} {mr : MR} {Q : V → MI → Nat → MR → Prop}
theorem u_writtenSince (hL : Lay G mr) {mi : MI} {g : Nat} {ρ : Int → Int} (hg : g < G) {s : Int} (hJ : RepJ mi g ρ) (hW : InvW ρ) (h8 : 0 ≤ ρ 8 ∧ ρ 8 ≤ 200) (hQ : ∀ M, (∀ j : Nat, j < 32 → (tB M j = true ↔ Wri ρ s 0 (ρ 8) j)) → Q (vI M) mi n mr) : Tx (d+2) mt_X1_writtenByLinesSince [vR (some (g, 30)), vI s] mi n mr Q := by
  have hok : okI G 30 g := hg
  obtain ⟨e0, e1, e2, ew⟩ := hJ
  refine tx_intro (ls := [vR (some (g, 30)), vI s, vX 0, vX 0, vX 0]) om_X1_writtenByLinesSince rfl (Nat.le_of_ble_eq_true rfl) ?_
  have loop : ∀ w : Nat, w ≤ (ρ 8).toNat → ∀ (M : Int) (x4 : V), (∀ j : Nat, j < 32 → (tB M j = true ↔ Wri ρ s w (ρ 8) j)) → Run (d+2) mt_X1_writtenByLinesSince Q (n, mr, 0, 0) mi 9 [vR (some (g, 30)), vI s, vI M, vI ((w : Int) - 1), x4] [] := by
    intro w
    induction w with
    | zero =>
      intro hw M x4 hM
      refine s_iload_n (dc kc_X1_writtenByLinesSince 7 rfl) rfl <| s_if_lt (tgt := 62) (dc kc_X1_writtenByLinesSince 8 rfl) rfl (fun c10 => (s_iload_n (dc kc_X1_writtenByLinesSince 37 rfl) rfl <| s_ireturn (dc kc_X1_writtenByLinesSince 38 rfl) rfl (Nat.zero_le _) (Nat.zero_le _) ?_)) (fun c10 => (?_))
      · exact hQ M hM
      · exfalso; omega
    | succ w ih =>
      intro hw M x4 hM
      have hq := ew w (by omega) (by omega)
      unfold plc at hq
      obtain ⟨q31, q32, q33, _⟩ := hq
      have hP : 0 ≤ (mi g 30 1 + (w : Int)) % 200 ∧ (mi g 30 1 + (w : Int)) % 200 < 200 := by omega
      have hcell := (hW.1 w (by omega) (by omega)).1
      rw [show ((w + 1 : Nat) : Int) - 1 = w by omega]
      have same : (¬ 0 ≤ ρ (646 + 7 * (w : Int) + 1)) → ∀ j : Int, Wri ρ s ((w + 1 : Nat) : Int) (ρ 8) j ↔ Wri ρ s w (ρ 8) j := fun hn j => by
        constructor
        · rintro ⟨u, h1, h2⟩; exact ⟨u, by omega, h2⟩
        · rintro ⟨u, h1, h2, h3, h4, h5⟩
          by_cases e : u = w
          · subst e; exact absurd h4 hn
          · exact ⟨u, by omega, h2, h3, h4, h5⟩
      refine s_iload_n (dc kc_X1_writtenByLinesSince 7 rfl) rfl <| s_if_lt (tgt := 62) (dc kc_X1_writtenByLinesSince 8 rfl) rfl (fun c10 => (s_iload_n (dc kc_X1_writtenByLinesSince 37 rfl) rfl <| s_ireturn (dc kc_X1_writtenByLinesSince 38 rfl) rfl (Nat.zero_le _) (Nat.zero_le _) ?_)) (fun c10 => (r_aload_n (dc kc_X1_writtenByLinesSince 9 rfl) rfl <| s_getA (dc kc_X1_writtenByLinesSince 10 rfl) fl_X1_21 (ly_30_3 hL (by assumption)) <| r_aload_n (dc kc_X1_writtenByLinesSince 11 rfl) rfl <| s_iload_n (dc kc_X1_writtenByLinesSince 12 rfl) rfl <| c_v1r (dc kc_X1_writtenByLinesSince 13 rfl) cl_X1_52 rfl (Nat.le_of_ble_eq_true rfl) (Nat.zero_le _) (Nat.zero_le _) <| u_placeOf (by first | omega | (simp [up] <;> omega)) (by first | omega | (simp [up] <;> omega)) (by first | omega | (simp [up] <;> omega)) (by first | omega | (simp [up] <;> omega)) <| s_iaload (dc kc_X1_writtenByLinesSince 14 rfl) rfl (by first | omega | (simp [up] <;> omega)) (by first | omega | (simp [up] <;> omega)) <| s_iload_n (dc kc_X1_writtenByLinesSince 15 rfl) rfl <| s_icmp_lt (tgt := 62) (dc kc_X1_writtenByLinesSince 16 rfl) rfl (fun c24 => (s_iload_n (dc kc_X1_writtenByLinesSince 37 rfl) rfl <| s_ireturn (dc kc_X1_writtenByLinesSince 38 rfl) rfl (Nat.zero_le _) (Nat.zero_le _) ?_)) (fun c24 => (r_aload_n (dc kc_X1_writtenByLinesSince 17 rfl) rfl <| s_iload_n (dc kc_X1_writtenByLinesSince 18 rfl) rfl <| c_v1r (dc kc_X1_writtenByLinesSince 19 rfl) cl_X1_52 rfl (Nat.le_of_ble_eq_true rfl) (Nat.zero_le _) (Nat.zero_le _) <| u_placeOf (by first | omega | (simp [up] <;> omega)) (by first | omega | (simp [up] <;> omega)) (by first | omega | (simp [up] <;> omega)) (by first | omega | (simp [up] <;> omega)) <| t_i4 (dc kc_X1_writtenByLinesSince 20 rfl) (Nat.le_of_ble_eq_true rfl) rfl <| r_aload_n (dc kc_X1_writtenByLinesSince 21 rfl) rfl <| s_getA (dc kc_X1_writtenByLinesSince 22 rfl) fl_X1_25 (ly_30_4 hL (by assumption)) <| s_iload (dc kc_X1_writtenByLinesSince 23 rfl) rfl <| s_iaload (dc kc_X1_writtenByLinesSince 24 rfl) rfl (by first | omega | (simp [up] <;> omega)) (by first | omega | (simp [up] <;> omega)) <| s_if_lt (tgt := 56) (dc kc_X1_writtenByLinesSince 25 rfl) rfl (fun c41 => (?_)) (fun c41 => (s_iload_n (dc kc_X1_writtenByLinesSince 26 rfl) rfl <| k_i (dc kc_X1_writtenByLinesSince 27 rfl) rfl <| r_aload_n (dc kc_X1_writtenByLinesSince 28 rfl) rfl <| s_getA (dc kc_X1_writtenByLinesSince 29 rfl) fl_X1_28 (ly_30_5 hL (by assumption)) <| s_iload (dc kc_X1_writtenByLinesSince 30 rfl) rfl <| s_iaload (dc kc_X1_writtenByLinesSince 31 rfl) rfl (by first | omega | (simp [up] <;> omega)) (by first | omega | (simp [up] <;> omega)) <| s_ishl (dc kc_X1_writtenByLinesSince 32 rfl) <| s_ior (dc kc_X1_writtenByLinesSince 33 rfl) <| t_i2 (dc kc_X1_writtenByLinesSince 34 rfl) (Nat.le_of_ble_eq_true rfl) rfl <| ?_))))))
      · exfalso; omega
      · rw [q31] at c24
        refine hQ M (fun j hj => (hM j hj).trans ⟨?_, ?_⟩)
        · rintro ⟨u, h1, h2⟩; exact ⟨u, by omega, h2⟩
        · rintro ⟨u, h1, h2, h3, h4, h5⟩
          by_cases e : (w : Int) < u
          · exact ⟨u, by omega, h2, h3, h4, h5⟩
          · have := InvW_up hW (w - u).toNat u h1 (by omega)
            rw [show u + ((w - u).toNat : Int) = w by omega] at this
            omega
      · rw [q32] at c41
        refine b_inc3 (dc kc_X1_writtenByLinesSince 35 rfl) rfl (Nat.le_of_ble_eq_true rfl) rfl (by first | omega | (simp [up] <;> omega)) (by first | omega | (simp [up] <;> omega)) <| s_goto (tgt := 9) (dc kc_X1_writtenByLinesSince 36 rfl) rfl <| ?_
        exact ih (by omega) M _ (fun j hj => (hM j hj).trans (same (by omega) j))
      · rw [q31] at c24
        rw [q32] at c41
        rw [q33]
        refine b_inc3 (dc kc_X1_writtenByLinesSince 35 rfl) rfl (Nat.le_of_ble_eq_true rfl) rfl (by first | omega | (simp [up] <;> omega)) (by first | omega | (simp [up] <;> omega)) <| s_goto (tgt := 9) (dc kc_X1_writtenByLinesSince 36 rfl) rfl <| ?_
        refine ih (by omega) _ _ (fun j hj => ?_)
        rw [tB_or, tB_bit hcell.1 (by omega) hj, Bool.or_eq_true, hM j hj, decide_eq_true_eq]
        constructor
        · rintro (⟨u, h1, h2⟩ | z)
          · exact ⟨u, by omega, h2⟩
          · exact ⟨w, Int.le_refl _, by omega, by omega, by omega, by omega⟩
        · rintro ⟨u, h1, h2, h3, h4, h5⟩
          by_cases e : u = w
          · subst e; right; omega
          · exact Or.inl ⟨u, by omega, h2, h3, h4, h5⟩
  refine k_i (dc kc_X1_writtenByLinesSince 0 rfl) rfl <| t_i2 (dc kc_X1_writtenByLinesSince 1 rfl) (Nat.le_of_ble_eq_true rfl) rfl <| r_aload_n (dc kc_X1_writtenByLinesSince 2 rfl) rfl <| s_getI (dc kc_X1_writtenByLinesSince 3 rfl) fl_X1_9 <| k_i (dc kc_X1_writtenByLinesSince 4 rfl) rfl <| b_isub (dc kc_X1_writtenByLinesSince 5 rfl) (by first | omega | (simp [up] <;> omega)) (by first | omega | (simp [up] <;> omega)) <| t_i3 (dc kc_X1_writtenByLinesSince 6 rfl) (Nat.le_of_ble_eq_true rfl) rfl <| ?_
  rw [e0]
  have := loop (ρ 8).toNat (Nat.le_refl _) 0 (vX 0) (fun j hj => ⟨fun z => (by rw [tB_0] at z; cases z), fun ⟨u, h1, h2, _⟩ => by omega⟩)
  rw [show (((ρ 8).toNat : Nat) : Int) = ρ 8 by omega] at this
  exact this
def bsP (ρ : Int → Int) (c : Int) : Int := ρ (102 + knd c) - (if lateF ρ c (ρ 8).toNat = true then 1 else 0)
theorem u_basePrices (hL : Lay G mr) {mi : MI} {g : Nat} {ρ : Int → Int} (hg : g < G) (hJ : RepJ mi g ρ) (hC : RepC (-1) mi g ρ) (hW : InvW ρ) (h8 : 0 ≤ ρ 8 ∧ ρ 8 ≤ 200) (h0 : 0 ≤ ρ 0 ∧ ρ 0 ≤ 1000000) (hp : ∀ i, 0 ≤ i → i < 5 → 1 ≤ ρ (102 + i) ∧ ρ (102 + i) ≤ 9) (hQ : ∀ mi', Cg pBp mi mi' → (∀ c, 0 ≤ c → c < 24 → mi' 0 64 c = bsP ρ c) → Q (vX 0) mi' n mr) : Tx (d+3) mt_X7_basePrices [vR (some (g, 5)), vR (some (0, 64))] mi n mr Q := by
  have hok : okI G 5 g := hg
  have e60 := hC.1 0 (by decide) (by decide) (by decide)
  refine tx_intro (ls := [vR (some (g, 5)), vR (some (0, 64)), vX 0, vX 0]) om_X7_basePrices rfl (Nat.le_of_ble_eq_true rfl) ?_
  refine r_aload_n (dc kc_X7_basePrices 0 rfl) rfl <| s_getO (dc kc_X7_basePrices 1 rfl) fl_X7_31 (ly_5_3 hL (by assumption)) <| r_aload_n (dc kc_X7_basePrices 2 rfl) rfl <| s_getA (dc kc_X7_basePrices 3 rfl) fl_X7_42 (ly_5_5 hL (by assumption)) <| k_i (dc kc_X7_basePrices 4 rfl) rfl <| s_iaload (dc kc_X7_basePrices 5 rfl) rfl (by first | omega | (simp [up] <;> omega)) (by first | omega | (simp [up] <;> omega)) <| k_b (dc kc_X7_basePrices 6 rfl) rfl <| b_isub (dc kc_X7_basePrices 7 rfl) (by first | omega | (simp [up] <;> omega)) (by first | omega | (simp [up] <;> omega)) <| c_v1r (dc kc_X7_basePrices 8 rfl) cl_X7_172 rfl (Nat.le_of_ble_eq_true rfl) (Nat.zero_le _) (Nat.zero_le _) ?_
  rw [e60]
  refine u_writtenSince hL hg hJ hW h8 (fun M hM => ?_)
  have bit : ∀ c : Int, 0 ≤ c → c < 24 → bAnd (bShr M c) 1 = (if lateF ρ c (ρ 8).toNat = true then 1 else 0) := fun c a b => by
    have hw : tB M c.toNat = true ↔ lateF ρ c (ρ 8).toNat = true := by
      rw [hM c.toNat (by omega), lateF_iff, Int.toNat_of_nonneg a]
      unfold Wri
      rw [show (((ρ 8).toNat : Nat) : Int) = ρ 8 by omega]
    by_cases e : lateF ρ c (ρ 8).toNat = true
    · rw [if_pos e]; exact (bit1 a (by omega)).mpr (hw.mpr e)
    · rw [if_neg e, bit0 a (by omega)]
      cases z : tB M c.toNat with
      | false => rfl
      | true => exact absurd (hw.mp z) e
  have loop : ∀ i : Nat, i ≤ 24 → ∀ m : MI, Cg pBp mi m → (∀ c, 0 ≤ c → c < (i : Int) → m 0 64 c = bsP ρ c) → Run (d+3) mt_X7_basePrices Q (n, mr, 0, 0) m 19 [vR (some (g, 5)), vR (some (0, 64)), vI M, vI (i : Int)] [] := by
    refine nloop ?_
    intro i hi ih m gC hm
    by_cases he : i < 24
    · have hk := knd_rg (c := (i : Int)) (by omega) (by omega)
      have e9 : m g 9 (knd i) = ρ (102 + knd i) := by rw [gC.at (by simp [pBp])]; exact hC.2.2.2.1 _ hk.1 (by omega)
      have hb := bit i (by omega) (by omega)
      have hpp := hp (knd i) hk.1 (by omega)
      have hb01 : 0 ≤ bAnd (bShr M i) 1 ∧ bAnd (bShr M i) 1 ≤ 1 := by rw [hb]; split <;> omega
      refine s_iload_n (dc kc_X7_basePrices 12 rfl) rfl <| k_b (dc kc_X7_basePrices 13 rfl) rfl <| s_icmp_ge (tgt := 49) (dc kc_X7_basePrices 14 rfl) rfl (fun c22 => (?_)) (fun c22 => (r_aload_n (dc kc_X7_basePrices 15 rfl) rfl <| s_iload_n (dc kc_X7_basePrices 16 rfl) rfl <| r_aload_n (dc kc_X7_basePrices 17 rfl) rfl <| s_getA (dc kc_X7_basePrices 18 rfl) fl_X7_52 (ly_5_8 hL (by assumption)) <| s_iload_n (dc kc_X7_basePrices 19 rfl) rfl <| c_s1r (dc kc_X7_basePrices 20 rfl) cl_X7_175 rfl (Nat.le_of_ble_eq_true rfl) (Nat.zero_le _) (Nat.zero_le _) <| u_kindOf (by first | omega | (simp [up] <;> omega)) (by first | omega | (simp [up] <;> omega)) <| s_iaload (dc kc_X7_basePrices 21 rfl) rfl (by first | omega | (simp [up] <;> omega)) (by first | omega | (simp [up] <;> omega)) <| s_iload_n (dc kc_X7_basePrices 22 rfl) rfl <| s_iload_n (dc kc_X7_basePrices 23 rfl) rfl <| s_ishr (dc kc_X7_basePrices 24 rfl) <| k_i (dc kc_X7_basePrices 25 rfl) rfl <| s_iand (dc kc_X7_basePrices 26 rfl) <| b_isub (dc kc_X7_basePrices 27 rfl) (by first | omega | (simp [up] <;> omega)) (by first | omega | (simp [up] <;> omega)) <| s_iastore (dc kc_X7_basePrices 28 rfl) rfl (by first | omega | (simp [up] <;> omega)) (by first | omega | (simp [up] <;> omega)) <| b_inc3 (dc kc_X7_basePrices 29 rfl) rfl (Nat.le_of_ble_eq_true rfl) rfl (by first | omega | (simp [up] <;> omega)) (by first | omega | (simp [up] <;> omega)) <| s_goto (tgt := 19) (dc kc_X7_basePrices 30 rfl) rfl <| ?_))
      · exfalso; omega
      · refine ih he _ (gC.up (by simp [pBp])) (fun c a b => ?_)
        by_cases e : c = i
        · subst e; rw [up_at, e9, hb]; rfl
        · rw [up_k e]; exact hm c a (by omega)
    · refine s_iload_n (dc kc_X7_basePrices 12 rfl) rfl <| k_b (dc kc_X7_basePrices 13 rfl) rfl <| s_icmp_ge (tgt := 49) (dc kc_X7_basePrices 14 rfl) rfl (fun c22 => (s_return (dc kc_X7_basePrices 31 rfl) rfl (Nat.zero_le _) (Nat.zero_le _) ?_)) (fun c22 => (?_))
      · exact hQ m gC (fun c a b => hm c a (by omega))
      · exfalso; omega
  refine t_i2 (dc kc_X7_basePrices 9 rfl) (Nat.le_of_ble_eq_true rfl) rfl <| k_i (dc kc_X7_basePrices 10 rfl) rfl <| t_i3 (dc kc_X7_basePrices 11 rfl) (Nat.le_of_ble_eq_true rfl) rfl <| ?_
  exact loop 0 (Nat.zero_le _) mi Cg.rf (fun c a b => by omega)
end MD5
