/-! the reference: an expression -/
section RXE
variable {d n G : Nat} {mr : MR} {Q : V → MI → Nat → MR → Prop} {t : Int → Int} {N o : Int}
theorem t_exprEndD (hL : Lay G mr) {mi0 m : MI} {p x y : Int} (gm : Ch (pPr 0) mi0 m) (hX : DX t N m p) (hQ : ∀ m', Ch (pPr 0) mi0 m' → DX t N m' p → Q (vX 0) m' n mr) : Run (d+9) mt_X12_readExpression Q (n, mr, 0, 0) m 76 [vR (some (0, 80)), vI x, vI y] [] := by
  obtain ⟨x1, x2, x3, x4, x5, x6⟩ := hX
  refine r_aload_n (dc kc_X12_readExpression_1 0 rfl) rfl <| k_i (dc kc_X12_readExpression_1 1 rfl) rfl <| c_v1 (dc kc_X12_readExpression_1 2 rfl) cl_X12_269 rfl (Nat.le_of_ble_eq_true rfl) (Nat.zero_le _) (Nat.zero_le _) ?_
  refine t_settleD hL x2 x3 x4 (fun m2 g2 q0 q1 q2 q3 q4 => ?_)
  refine s_return (dc kc_X12_readExpression_1 3 rfl) rfl (Nat.zero_le _) (Nat.zero_le _) ?_
  exact hQ m2 (gm.tr (pr_Stl g2 q3 x2)) ⟨x1.mv g2 (fun k => by simp [pStl]) (fun k k0 k1 => by simp [pStl]; omega), q0, q1, by omega, fun z => by rw [g2.at (by simp [pStl])] at z; have := x5 z; omega, by rw [g2.at (by simp [pStl])]; exact x6⟩
theorem t_exprD (hL : Lay G mr) {mi0 m : MI} {p x y : Int} (hN : N ≤ 400) (hx : x = 0 ∨ x = 1) (gm : Ch (pPr 0) mi0 m) (hX : DX t N m p) (hQ : ∀ m', Ch (pPr 0) mi0 m' → DX t N m' p → Q (vX 0) m' n mr) : Run (d+9) mt_X12_readExpression Q (n, mr, 0, 0) m 20 [vR (some (0, 80)), vI x, vI y] [] := by
  have bad : ∀ (m2 : MI) (z : Int), Ch (pPr 0) mi0 m2 → RB m2 p → DX t N m2 p → Run (d+9) mt_X12_readExpression Q (n, mr, 0, 0) m2 20 [vR (some (0, 80)), vI x, vI z] [] := fun m2 z g2 h2 x2 => by
    have e17 := h2.1
    refine r_aload_n (dc kc_X12_readExpression_0 12 rfl) rfl <| s_getZ (dc kc_X12_readExpression_0 13 rfl) fl_X12_146 <| s_if_ne (tgt := 76) (dc kc_X12_readExpression_0 14 rfl) rfl (fun c24 => (?_)) (fun c24 => (?_))
    · exact t_exprEndD hL g2 x2 hQ
    · exfalso; omega
  obtain ⟨x1, x2, x3, x4, x5, x6⟩ := id hX
  rcases x1 with hD | hD
  · have e17 := hD.b
    have r4 : Run (d+9) mt_X12_readExpression Q (n, mr, 0, 0) m 20 [vR (some (0, 80)), vI x, vI 4] [] := by
      refine r_aload_n (dc kc_X12_readExpression_0 12 rfl) rfl <| s_getZ (dc kc_X12_readExpression_0 13 rfl) fl_X12_146 <| s_if_ne (tgt := 76) (dc kc_X12_readExpression_0 14 rfl) rfl (fun c24 => (?_)) (fun c24 => (s_iload_n (dc kc_X12_readExpression_0 15 rfl) rfl <| k_i (dc kc_X12_readExpression_0 16 rfl) rfl <| s_icmp_eq (tgt := 76) (dc kc_X12_readExpression_0 17 rfl) rfl (fun c29 => (?_)) (fun c29 => (?_))))
      · exfalso; omega
      · exact t_exprEndD hL gm hX hQ
      · exfalso; omega
    have tst : ∀ z : Int, z ≠ 4 → Run (d+9) mt_X12_readExpression Q (n, mr, 0, 0) m 68 [vR (some (0, 80)), vI x, vI z] [] := fun z hz => by
      refine r_aload_n (dc kc_X12_readExpression_0 36 rfl) rfl <| c_v0r (dc kc_X12_readExpression_0 37 rfl) cl_X12_290 rfl (Nat.le_of_ble_eq_true rfl) (Nat.zero_le _) (Nat.zero_le _) ?_
      refine t_behindTestD hL (C0 := 0) x2 hD hX hN (fun m2 tn g2 h2 xx => ?_) ?_
      · refine t_i2 (dc kc_X12_readExpression_0 38 rfl) (Nat.le_of_ble_eq_true rfl) rfl <| s_goto (tgt := 20) (dc kc_X12_readExpression_0 39 rfl) rfl <| ?_
        exact bad m2 tn (gm.tr g2) h2 xx
      · refine t_i2 (dc kc_X12_readExpression_0 38 rfl) (Nat.le_of_ble_eq_true rfl) rfl <| s_goto (tgt := 20) (dc kc_X12_readExpression_0 39 rfl) rfl <| ?_
        exact r4
    have r2 : Run (d+9) mt_X12_readExpression Q (n, mr, 0, 0) m 20 [vR (some (0, 80)), vI x, vI 2] [] := by
      refine r_aload_n (dc kc_X12_readExpression_0 12 rfl) rfl <| s_getZ (dc kc_X12_readExpression_0 13 rfl) fl_X12_146 <| s_if_ne (tgt := 76) (dc kc_X12_readExpression_0 14 rfl) rfl (fun c24 => (?_)) (fun c24 => (s_iload_n (dc kc_X12_readExpression_0 15 rfl) rfl <| k_i (dc kc_X12_readExpression_0 16 rfl) rfl <| s_icmp_eq (tgt := 76) (dc kc_X12_readExpression_0 17 rfl) rfl (fun c29 => (?_)) (fun c29 => (s_iload_n (dc kc_X12_readExpression_0 18 rfl) rfl <| s_if_ne (tgt := 43) (dc kc_X12_readExpression_0 19 rfl) rfl (fun c33 => (s_iload_n (dc kc_X12_readExpression_0 23 rfl) rfl <| k_i (dc kc_X12_readExpression_0 24 rfl) rfl <| s_icmp_ne (tgt := 55) (dc kc_X12_readExpression_0 25 rfl) rfl (fun c45 => (s_iload_n (dc kc_X12_readExpression_0 29 rfl) rfl <| k_i (dc kc_X12_readExpression_0 30 rfl) rfl <| s_icmp_ne (tgt := 68) (dc kc_X12_readExpression_0 31 rfl) rfl (fun c57 => (?_)) (fun c57 => (?_)))) (fun c45 => (?_)))) (fun c33 => (?_))))))
      all_goals first | (exfalso; omega) | exact tst 2 (by decide)
    by_cases y4 : y = 4
    · rw [y4]; exact r4
    · by_cases y0 : y = 0
      · refine r_aload_n (dc kc_X12_readExpression_0 12 rfl) rfl <| s_getZ (dc kc_X12_readExpression_0 13 rfl) fl_X12_146 <| s_if_ne (tgt := 76) (dc kc_X12_readExpression_0 14 rfl) rfl (fun c24 => (?_)) (fun c24 => (s_iload_n (dc kc_X12_readExpression_0 15 rfl) rfl <| k_i (dc kc_X12_readExpression_0 16 rfl) rfl <| s_icmp_eq (tgt := 76) (dc kc_X12_readExpression_0 17 rfl) rfl (fun c29 => (?_)) (fun c29 => (s_iload_n (dc kc_X12_readExpression_0 18 rfl) rfl <| s_if_ne (tgt := 43) (dc kc_X12_readExpression_0 19 rfl) rfl (fun c33 => (?_)) (fun c33 => (?_))))))
        · exfalso; omega
        · exfalso; omega
        · exfalso; omega
        · refine r_aload_n (dc kc_X12_readExpression_0 20 rfl) rfl <| c_v0r (dc kc_X12_readExpression_0 21 rfl) cl_X12_283 rfl (Nat.le_of_ble_eq_true rfl) (Nat.zero_le _) (Nat.zero_le _) ?_
          refine t_readPlainD hL (C0 := 0) x2 hD hX hN (fun m2 tn g2 h2 xx => ?_)
          refine s_goto (tgt := 72) (dc kc_X12_readExpression_0 22 rfl) rfl <| t_i2 (dc kc_X12_readExpression_0 38 rfl) (Nat.le_of_ble_eq_true rfl) rfl <| s_goto (tgt := 20) (dc kc_X12_readExpression_0 39 rfl) rfl <| ?_
          exact bad m2 tn (gm.tr g2) h2 xx
      · by_cases y1 : y = 1
        · refine r_aload_n (dc kc_X12_readExpression_0 12 rfl) rfl <| s_getZ (dc kc_X12_readExpression_0 13 rfl) fl_X12_146 <| s_if_ne (tgt := 76) (dc kc_X12_readExpression_0 14 rfl) rfl (fun c24 => (?_)) (fun c24 => (s_iload_n (dc kc_X12_readExpression_0 15 rfl) rfl <| k_i (dc kc_X12_readExpression_0 16 rfl) rfl <| s_icmp_eq (tgt := 76) (dc kc_X12_readExpression_0 17 rfl) rfl (fun c29 => (?_)) (fun c29 => (s_iload_n (dc kc_X12_readExpression_0 18 rfl) rfl <| s_if_ne (tgt := 43) (dc kc_X12_readExpression_0 19 rfl) rfl (fun c33 => (s_iload_n (dc kc_X12_readExpression_0 23 rfl) rfl <| k_i (dc kc_X12_readExpression_0 24 rfl) rfl <| s_icmp_ne (tgt := 55) (dc kc_X12_readExpression_0 25 rfl) rfl (fun c45 => (?_)) (fun c45 => (?_)))) (fun c33 => (?_))))))
          · exfalso; omega
          · exfalso; omega
          · exfalso; omega
          · refine r_aload_n (dc kc_X12_readExpression_0 26 rfl) rfl <| c_v0r (dc kc_X12_readExpression_0 27 rfl) cl_X12_265 rfl (Nat.le_of_ble_eq_true rfl) (Nat.zero_le _) (Nat.zero_le _) ?_
            refine t_readPartD hL (C0 := 0) x2 hD hX hN (fun m2 tn g2 h2 xx => ?_)
            refine s_goto (tgt := 72) (dc kc_X12_readExpression_0 28 rfl) rfl <| t_i2 (dc kc_X12_readExpression_0 38 rfl) (Nat.le_of_ble_eq_true rfl) rfl <| s_goto (tgt := 20) (dc kc_X12_readExpression_0 39 rfl) rfl <| ?_
            exact bad m2 tn (gm.tr g2) h2 xx
          · exfalso; omega
        · by_cases y3 : y = 3
          · refine r_aload_n (dc kc_X12_readExpression_0 12 rfl) rfl <| s_getZ (dc kc_X12_readExpression_0 13 rfl) fl_X12_146 <| s_if_ne (tgt := 76) (dc kc_X12_readExpression_0 14 rfl) rfl (fun c24 => (?_)) (fun c24 => (s_iload_n (dc kc_X12_readExpression_0 15 rfl) rfl <| k_i (dc kc_X12_readExpression_0 16 rfl) rfl <| s_icmp_eq (tgt := 76) (dc kc_X12_readExpression_0 17 rfl) rfl (fun c29 => (?_)) (fun c29 => (s_iload_n (dc kc_X12_readExpression_0 18 rfl) rfl <| s_if_ne (tgt := 43) (dc kc_X12_readExpression_0 19 rfl) rfl (fun c33 => (s_iload_n (dc kc_X12_readExpression_0 23 rfl) rfl <| k_i (dc kc_X12_readExpression_0 24 rfl) rfl <| s_icmp_ne (tgt := 55) (dc kc_X12_readExpression_0 25 rfl) rfl (fun c45 => (s_iload_n (dc kc_X12_readExpression_0 29 rfl) rfl <| k_i (dc kc_X12_readExpression_0 30 rfl) rfl <| s_icmp_ne (tgt := 68) (dc kc_X12_readExpression_0 31 rfl) rfl (fun c57 => (?_)) (fun c57 => (?_)))) (fun c45 => (?_)))) (fun c33 => (?_))))))
            · exfalso; omega
            · exfalso; omega
            · exfalso; omega
            · refine r_aload_n (dc kc_X12_readExpression_0 32 rfl) rfl <| s_iload_n (dc kc_X12_readExpression_0 33 rfl) rfl <| c_v1r (dc kc_X12_readExpression_0 34 rfl) cl_X12_286 rfl (Nat.le_of_ble_eq_true rfl) (Nat.zero_le _) (Nat.zero_le _) ?_
              refine t_behindSumD hL (C0 := 0) hx x2 hD hX hN (fun m2 tn g2 h2 xx => ?_) (fun tn htn => ?_)
              · refine s_goto (tgt := 72) (dc kc_X12_readExpression_0 35 rfl) rfl <| t_i2 (dc kc_X12_readExpression_0 38 rfl) (Nat.le_of_ble_eq_true rfl) rfl <| s_goto (tgt := 20) (dc kc_X12_readExpression_0 39 rfl) rfl <| ?_
                exact bad m2 tn (gm.tr g2) h2 xx
              · refine s_goto (tgt := 72) (dc kc_X12_readExpression_0 35 rfl) rfl <| t_i2 (dc kc_X12_readExpression_0 38 rfl) (Nat.le_of_ble_eq_true rfl) rfl <| s_goto (tgt := 20) (dc kc_X12_readExpression_0 39 rfl) rfl <| ?_
                rcases htn with z | z
                · rw [z]; exact r2
                · rw [z]; exact r4
            · exfalso; omega
            · exfalso; omega
          · refine r_aload_n (dc kc_X12_readExpression_0 12 rfl) rfl <| s_getZ (dc kc_X12_readExpression_0 13 rfl) fl_X12_146 <| s_if_ne (tgt := 76) (dc kc_X12_readExpression_0 14 rfl) rfl (fun c24 => (?_)) (fun c24 => (s_iload_n (dc kc_X12_readExpression_0 15 rfl) rfl <| k_i (dc kc_X12_readExpression_0 16 rfl) rfl <| s_icmp_eq (tgt := 76) (dc kc_X12_readExpression_0 17 rfl) rfl (fun c29 => (?_)) (fun c29 => (s_iload_n (dc kc_X12_readExpression_0 18 rfl) rfl <| s_if_ne (tgt := 43) (dc kc_X12_readExpression_0 19 rfl) rfl (fun c33 => (s_iload_n (dc kc_X12_readExpression_0 23 rfl) rfl <| k_i (dc kc_X12_readExpression_0 24 rfl) rfl <| s_icmp_ne (tgt := 55) (dc kc_X12_readExpression_0 25 rfl) rfl (fun c45 => (s_iload_n (dc kc_X12_readExpression_0 29 rfl) rfl <| k_i (dc kc_X12_readExpression_0 30 rfl) rfl <| s_icmp_ne (tgt := 68) (dc kc_X12_readExpression_0 31 rfl) rfl (fun c57 => (?_)) (fun c57 => (?_)))) (fun c45 => (?_)))) (fun c33 => (?_))))))
            all_goals first | (exfalso; omega) | exact tst y y4
  · exact bad m y gm hD hX
theorem t_readExprD (hL : Lay G mr) {mi : MI} {p x : Int} (hN : N ≤ 400) (hx : x = 0 ∨ x = 1) (hX : DXz t N 0 mi p) (hQ : ∀ m', Ch (pPr 0) mi m' → DX t N m' p → Q (vX 0) m' n mr) : Tx (d+9) mt_X12_readExpression [vR (some (0, 80)), vI x] mi n mr Q := by
  obtain ⟨x1, x2, x3, x4, x5, x6⟩ := id hX
  have gc : Ch (fun j k => j == 80 && (k == 24 || k == 25)) mi (up (up mi 0 80 24 0) 0 80 25 0) := (Ch.rf.up (by simp)).up (by simp)
  have g0 : Ch (pPr 0) mi (up (up mi 0 80 24 0) 0 80 25 0) := gc.mono (fun j k z => by simp at z; simp [pPr]; omega)
  have hX2 : DX t N (up (up mi 0 80 24 0) 0 80 25 0) p := ⟨x1.mv gc (fun k => by simp) (fun k k0 k1 => by simp; omega), by simp [up]; omega, by simp [up], by simp [up]; omega, fun z => by simp [up] at z ⊢; have := x5 z; omega, by simp [up]⟩
  refine tx_intro (ls := [vR (some (0, 80)), vI x, vX 0]) om_X12_readExpression rfl (Nat.le_of_ble_eq_true rfl) ?_
  refine r_aload_n (dc kc_X12_readExpression_0 0 rfl) rfl <| k_i (dc kc_X12_readExpression_0 1 rfl) rfl <| s_putI (dc kc_X12_readExpression_0 2 rfl) fl_X12_194 <| r_aload_n (dc kc_X12_readExpression_0 3 rfl) rfl <| k_i (dc kc_X12_readExpression_0 4 rfl) rfl <| s_putI (dc kc_X12_readExpression_0 5 rfl) fl_X12_212 <| s_iload_n (dc kc_X12_readExpression_0 6 rfl) rfl <| s_if_eq (tgt := 18) (dc kc_X12_readExpression_0 7 rfl) rfl (fun c11 => (k_i (dc kc_X12_readExpression_0 10 rfl) rfl <| t_i2 (dc kc_X12_readExpression_0 11 rfl) (Nat.le_of_ble_eq_true rfl) rfl <| ?_)) (fun c11 => (k_i (dc kc_X12_readExpression_0 8 rfl) rfl <| s_goto (tgt := 19) (dc kc_X12_readExpression_0 9 rfl) rfl <| t_i2 (dc kc_X12_readExpression_0 11 rfl) (Nat.le_of_ble_eq_true rfl) rfl <| ?_))
  · exact t_exprD hL hN hx g0 hX2 hQ
  · exact t_exprD hL hN hx g0 hX2 hQ
theorem opn_all {ts : Bool} : ∀ {P : List Int}, PlT ts P → inn P = -1 → opn P 1 = P ∧ opr P 1 = []
  | [], _, _ => ⟨rfl, rfl⟩
  | x :: P, h, hi => by
    have hx : x < 30 := by
      by_cases z : 30 ≤ x
      · rw [inn, if_pos z] at hi; omega
      · omega
    have hb : 1 ≤ bnd x := by
      have h2 := h.2
      have : x = 27 ∨ x = 28 ∨ x = 29 := by omega
      rcases this with z | z | z <;> subst z <;> decide
    rw [inn, if_neg (by omega)] at hi
    obtain ⟨i1, i2⟩ := opn_all h.1 hi
    rw [opn, opr, if_pos hb, if_pos hb, i1, i2]
    exact ⟨rfl, rfl⟩
theorem td_all {ts : Bool} {P : List Int} (h : TdT ts P) (hi : inn P = -1) : opn P 1 = P ∧ opr P 1 = [] := by
  rcases h with h | ⟨x, Q, e1, hc, hQ⟩ | ⟨y, x, Q, e1, hy, hc, hQ⟩
  · exact opn_all h hi
  · subst e1
    rw [inn, if_neg (by omega)] at hi
    obtain ⟨i1, i2⟩ := opn_all hQ hi
    rw [opn, opr, if_pos (by rw [bnd_c hc]; omega), if_pos (by rw [bnd_c hc]; omega), i1, i2]
    exact ⟨rfl, rfl⟩
  · subst e1
    rw [inn, if_neg (by unfold isS at hy; omega), inn, if_neg (by omega)] at hi
    obtain ⟨i1, i2⟩ := opn_all hQ hi
    rw [opn, opr, if_pos (by rw [bnd_s hy]; omega), if_pos (by rw [bnd_s hy]; omega), opn, opr, if_pos (by rw [bnd_c hc]; omega), if_pos (by rw [bnd_c hc]; omega), i1, i2]
    exact ⟨rfl, rfl⟩
theorem ps_all {P : List Int} (h : PsT false P) (hi : inn P = -1) : P = [] ∨ ∃ x, isS x ∧ P = [x] := by
  cases P with
  | nil => exact Or.inl rfl
  | cons x P =>
    rcases h with z | z | z | z
    · rw [inn, if_pos (by omega)] at hi; omega
    · exact absurd z.2 PlT_false
    · right
      refine ⟨x, z.1, ?_⟩
      obtain ⟨z1, z2, z3⟩ := z
      rw [inn, if_neg (by unfold isS at z1; omega)] at hi
      cases P with
      | nil => rfl
      | cons y P =>
        exfalso
        rcases z2 with w | w | w | w
        · rw [inn, if_pos (by omega)] at hi; omega
        · exact PlT_false w.2
        · exact z3 ⟨y, P, rfl, w.1⟩
        · exact PlT_false w.1
    · exact absurd z.1 PlT_false
theorem t_readExprA (hL : Lay G mr) (hP : Tpe t N) {mi : MI} {C0 f u x : Int} {ts : Bool} {R : List Int} {tg e : Int} {K pp v c : List CT} (hA : RA t N mi f u) (hu1 : 1 ≤ u) (hC : CdR mi C0 K) (hC0 : 0 ≤ C0) (hw : mi 0 80 20 ≤ f) (hR : R.length ≤ 2) (ho : mi 0 80 19 = o) (ho1 : o = 0 ∨ o = 1) (hx : x = if ts = true then 1 else 0)
    (hQA : ∀ m' f' u' nd (a : Nat), Ch (pPr C0) mi m' → RA t N m' f' u' → (m' 0 80 24 = 0 ∧ m' 0 80 25 = 0) → CdR m' C0 (K ++ nd) → m' 0 80 20 ≤ f' → u < u' → (a : Int) ≤ 50 * (u' - u) + 20 → Rh (tkF t N) (nuF t N) (nxF t N) o a (f, u, 0, -1, (if ts = true then 710 else 720) :: R, tg, e, pp, v, c) (f', u', 0, -1, R, tg, e, pp, v, c ++ nd) → Q (vX 0) m' n mr)
    (hQD : ∀ m' p, Ch (pPr 0) mi m' → DX t N m' p → Dn (tkF t N) (nuF t N) (nxF t N) o 4500 (f, u, 0, -1, (if ts = true then 710 else 720) :: R, tg, e, pp, v, c) p → Q (vX 0) m' n mr) : Tx (d+9) mt_X12_readExpression [vR (some (0, 80)), vI x] mi n mr Q := by
  have hN := hP.1.2
  have hu00 := hA.2.2.2.2.2.1
  have hx01 : x = 0 ∨ x = 1 := by rw [hx]; split <;> omega
  generalize hs0 : ((f, u, 0, -1, (if ts = true then 710 else 720) :: R, tg, e, pp, v, c) : MS) = s0 at *
  -- the end
  have fin : ∀ (m : MI) (P : List Int) (f1 u1 b1 : Int) (nd : List CT) (S : List Int) (a : Nat) (y : Int), Ch (pPr C0) mi m → EX t N m C0 (K ++ nd) P f1 u1 b1 → OvT ts R P (tkF t N f1) S → u < u1 → (a : Int) + 5 * P.length ≤ 50 * (u1 - u) + 10 → Rh (tkF t N) (nuF t N) (nxF t N) o a s0 (f1, u1, b1, -1, S, tg, e, pp, v, c ++ nd) → Run (d+9) mt_X12_readExpression Q (n, mr, 0, 0) m 76 [vR (some (0, 80)), vI x, vI y] [] := by
    intro m P f1 u1 b1 nd S a y gm hE hO hu ha hRh
    obtain ⟨eA, e25, ebr, eb8, ePl, eCd, ew, ePu⟩ := hE
    have e20 := eCd.1
    have e24 := ePl.1
    have hf1 := eA.2.2.2.2.1
    obtain ⟨hi, hO⟩ := hO
    have hu60 := eA.2.2.2.2.2.1
    have key : (opn P 1 = P ∧ opr P 1 = []) ∧ nbr P = 0 ∧ Rh (tkF t N) (nuF t N) (nxF t N) o (2 * P.length + 3) (f1, u1, b1, -1, S, tg, e, pp, v, c ++ nd) (f1, u1, b1, -1, R, tg, e, pp, v, (c ++ nd) ++ P.map (fun x => tokOf x 0)) := by
      have hnb : ∀ {P : List Int}, opr P 1 = [] → nbr P = 0 := fun {P} z => by
        have := (nbr_opr (l := 1) (by decide) P).1
        rw [z] at this
        exact this.symm
      rcases hO with ⟨hts, hps, hS, n75, n77⟩ | ⟨htd, hS, n16, n17, h7⟩
      · subst hts
        have fin721 : ∀ cc : List CT, Rh (tkF t N) (nuF t N) (nxF t N) o 1 (f1, u1, b1, -1, 721 :: R, tg, e, pp, v, cc) (f1, u1, b1, -1, R, tg, e, pp, v, cc) := fun cc => rul_0 (L := []) (by decide) (by omega) (by rw [prd_721, if_neg n75, if_neg n77])
        rcases ps_all hps hi with z | ⟨y, hy, z⟩
        · subst z
          refine ⟨⟨rfl, rfl⟩, rfl, ?_⟩
          rw [hS]
          show Rh (tkF t N) (nuF t N) (nxF t N) o (2 * 0 + 3) (f1, u1, b1, -1, 721 :: R, tg, e, pp, v, c ++ nd) (f1, u1, b1, -1, R, tg, e, pp, v, (c ++ nd) ++ [])
          rw [List.append_nil]
          exact (fin721 _).mono (by omega)
        · subst z
          have hb5 := bnd_s hy
          have e1 : opn [y] 1 = [y] := by rw [opn, if_pos (by omega)]; rfl
          have e2 : opr [y] 1 = [] := by rw [opr, if_pos (by omega)]; rfl
          refine ⟨⟨e1, e2⟩, hnb e2, ?_⟩
          obtain ⟨t1, t2⟩ := tkO_s hy
          rw [hS, J_s hy]
          have := emt (tk := tkF t N) (nu := nuF t N) (nx := nxF t N) (o := o) (f := f1) (u := u1) (b' := b1) (y := 400 + tkO y) (tg := tg) (e := e) (r := 721 :: R) (pp := pp) (v := v) (c := c ++ nd) t2.1 t2.2 (by rw [List.length_cons]; omega)
          rw [show 400 + tkO y - 400 = tkO y by omega, ← t1] at this
          exact (this.tr (fin721 _)).mono (by simp)
      · obtain ⟨a1, a2⟩ := td_all htd hi
        refine ⟨⟨a1, a2⟩, hnb a2, ?_⟩
        obtain ⟨i1, i2, i3, i4⟩ := mT1 (nu := nuF t N) (nx := nxF t N) (o := o) (u := u1) (b := b1) (tg := tg) (e := e) (pp := pp) (v := v) (R := R) (c := c ++ nd) htd (by omega) n17 h7
        rw [a1, a2] at i4
        rw [hS]
        have i5 := i4.tr (rul_0 (tk := tkF t N) (o := o) (L := []) (by decide) (by rw [List.length_drop]; have := (KJ_len (ts := ts) (R := R) []).2; rw [List.length_nil] at this; omega) (by rw [prd_711, if_neg n16]))
        exact i5.mono (by omega)
    obtain ⟨⟨k1, k2⟩, k3, k4⟩ := key
    rw [k3] at ebr
    subst ebr
    refine r_aload_n (dc kc_X12_readExpression_1 0 rfl) rfl <| k_i (dc kc_X12_readExpression_1 1 rfl) rfl <| c_v1 (dc kc_X12_readExpression_1 2 rfl) cl_X12_269 rfl (Nat.le_of_ble_eq_true rfl) (Nat.zero_le _) (Nat.zero_le _) ?_
    refine t_settleT hL ePl eCd hC0 (by omega) (fun m2 g2 l2 c2 f2 => ?_)
    refine s_return (dc kc_X12_readExpression_1 3 rfl) rfl (Nat.zero_le _) (Nat.zero_le _) ?_
    rw [k1] at c2
    rw [k2] at l2
    have q24 := l2.1
    have q20 := c2.1
    rw [List.length_append, List.length_map] at q20
    rw [List.append_assoc] at c2 k4
    refine hQA m2 f1 u1 (nd ++ P.map (fun x => tokOf x 0)) (a + (2 * P.length + 3)) (gm.tr (pr_Stl g2 f2 (by rw [e20]; omega))) (eA.mv g2 (fun k => by simp [pStl]) (fun k k0 k1 _ => by simp [pStl]; omega)) ⟨by rw [q24]; rfl, by rw [g2.at (by simp [pStl])]; exact e25⟩ c2 (by omega) hu (by omega) (hRh.tr k4)
  have loop : ∀ (k : Nat) (m : MI) (tn : Int) (P : List Int) (f1 u1 b1 : Int) (nd : List CT) (S : List Int) (a : Nat), 3 * (60 - u1).toNat + (if tn = 3 then 2 else if tn = 2 then 1 else 0) < k → Ch (pPr C0) mi m → EX t N m C0 (K ++ nd) P f1 u1 b1 → StT ts R tn P (tkF t N f1) S → u ≤ u1 → (u < u1 ∨ tn = 0 ∨ tn = 1) → (a : Int) + 5 * P.length ≤ 50 * (u1 - u) + 10 → Rh (tkF t N) (nuF t N) (nxF t N) o a s0 (f1, u1, b1, -1, S, tg, e, pp, v, c ++ nd) → Run (d+9) mt_X12_readExpression Q (n, mr, 0, 0) m 20 [vR (some (0, 80)), vI x, vI tn] [] := by
    intro k
    induction k with
    | zero => intro m tn P f1 u1 b1 nd S a hk; omega
    | succ k ih =>
      intro m tn P f1 u1 b1 nd S a hk gm hE hS hu hu2 ha hRh
      have e17 := hE.1.2.2.1
      have hu60 := hE.1.2.2.2.2.2.1
      have hom : m 0 80 19 = o := by rw [gm.at (by simp [pPr])]; exact ho
      have nxt : ∀ (m' : MI) (tn' : Int) (P' : List Int) (f' u' b' : Int) (nd' : List CT) (S' : List Int) (a' : Nat), Ch (pPr C0) m m' → EX t N m' C0 ((K ++ nd) ++ nd') P' f' u' b' → StT ts R tn' P' (tkF t N f') S' → (a' : Int) + 5 * P'.length ≤ 5 * P.length + 50 * (u' - u1) → u1 ≤ u' → ((tn' = 2 ∨ tn' = 4) ∨ u1 < u') → (u1 < u' ∨ tn = 3 ∨ (tn = 2 ∧ tn' ≠ 2)) → Rh (tkF t N) (nuF t N) (nxF t N) o a' (f1, u1, b1, -1, S, tg, e, pp, v, c ++ nd) (f', u', b', -1, S', tg, e, pp, v, (c ++ nd) ++ nd') → Run (d+9) mt_X12_readExpression Q (n, mr, 0, 0) m' 20 [vR (some (0, 80)), vI x, vI tn'] [] := by
        intro m' tn' P' f' u' b' nd' S' a' g' x' s' k' q' w' t' r'
        have hu60' := x'.1.2.2.2.2.2.1
        rw [List.append_assoc] at x' r'
        by_cases t4 : tn' = 4
        · have hO : OvT ts R P' (tkF t N f') S' := by
            unfold StT at s'
            rcases s' with z | z | z | z | z
            · omega
            · omega
            · omega
            · omega
            · exact z.2
          have e17' := x'.1.2.2.1
          have hlt : u < u' := by omega
          subst t4
          refine r_aload_n (dc kc_X12_readExpression_0 12 rfl) rfl <| s_getZ (dc kc_X12_readExpression_0 13 rfl) fl_X12_146 <| s_if_ne (tgt := 76) (dc kc_X12_readExpression_0 14 rfl) rfl (fun c24 => (?_)) (fun c24 => (s_iload_n (dc kc_X12_readExpression_0 15 rfl) rfl <| k_i (dc kc_X12_readExpression_0 16 rfl) rfl <| s_icmp_eq (tgt := 76) (dc kc_X12_readExpression_0 17 rfl) rfl (fun c29 => (?_)) (fun c29 => (?_))))
          · exfalso; omega
          · exact fin m' P' f' u' b' (nd ++ nd') S' (a + a') 4 (gm.tr g') x' hO hlt (by omega) (hRh.tr r')
          · exfalso; omega
        · exact ih m' tn' P' f' u' b' (nd ++ nd') S' (a + a') (by
            have h1 : (if tn' = 3 then (2 : Nat) else if tn' = 2 then 1 else 0) ≤ 2 := by split; omega; split <;> omega
            by_cases hlt : u1 < u'
            · omega
            · have ht2 : tn' = 2 := by omega
              rw [if_neg (by omega), if_pos ht2]
              have ht3 : tn = 3 := by omega
              rw [if_pos ht3] at hk
              omega) (gm.tr g') x' s' (by omega) (by omega) (by omega) (hRh.tr r')
      have ded : ∀ (m' : MI) (tn' p : Int), Ch (pPr 0) m m' → DX t N m' p → Dn (tkF t N) (nuF t N) (nxF t N) o 700 (f1, u1, b1, -1, S, tg, e, pp, v, c ++ nd) p → Run (d+9) mt_X12_readExpression Q (n, mr, 0, 0) m' 20 [vR (some (0, 80)), vI x, vI tn'] [] := fun m' tn' p g' x' dn' => t_exprD hL hN hx01 ((pr_mono hC0 gm).tr g') x' (fun m2 g2 x2 => hQD m2 p g2 x2 ((hRh.dn dn').mono (by omega)))
      rcases hS with ⟨h0, hpl, hSe⟩ | ⟨h0, hps, hSe⟩ | ⟨h0, hps, hSe⟩ | ⟨h0, htd, hSe, h7⟩ | ⟨h0, hO⟩
      · subst h0 hSe
        refine r_aload_n (dc kc_X12_readExpression_0 12 rfl) rfl <| s_getZ (dc kc_X12_readExpression_0 13 rfl) fl_X12_146 <| s_if_ne (tgt := 76) (dc kc_X12_readExpression_0 14 rfl) rfl (fun c24 => (?_)) (fun c24 => (s_iload_n (dc kc_X12_readExpression_0 15 rfl) rfl <| k_i (dc kc_X12_readExpression_0 16 rfl) rfl <| s_icmp_eq (tgt := 76) (dc kc_X12_readExpression_0 17 rfl) rfl (fun c29 => (?_)) (fun c29 => (s_iload_n (dc kc_X12_readExpression_0 18 rfl) rfl <| s_if_ne (tgt := 43) (dc kc_X12_readExpression_0 19 rfl) rfl (fun c33 => (?_)) (fun c33 => (?_))))))
        · exfalso; omega
        · exfalso; omega
        · exfalso; omega
        · refine r_aload_n (dc kc_X12_readExpression_0 20 rfl) rfl <| c_v0r (dc kc_X12_readExpression_0 21 rfl) cl_X12_283 rfl (Nat.le_of_ble_eq_true rfl) (Nat.zero_le _) (Nat.zero_le _) ?_
          refine t_readPlainA hL hP (o := o) (ts := ts) (R := R) (tg := tg) (e := e) (pp := pp) (v := v) (c := c ++ nd) hE hC0 hpl hR hom ho1 (fun m' tn' P' f' u' b' nd' S' a' g' x' s' k' q' w' r' => ?_) (fun m' tn' p g' x' dn' => ?_)
          · refine s_goto (tgt := 72) (dc kc_X12_readExpression_0 22 rfl) rfl <| t_i2 (dc kc_X12_readExpression_0 38 rfl) (Nat.le_of_ble_eq_true rfl) rfl <| s_goto (tgt := 20) (dc kc_X12_readExpression_0 39 rfl) rfl <| ?_
            exact nxt m' tn' P' f' u' b' nd' S' a' g' x' s' (by omega) (by omega) (by omega) (by omega) r'
          · refine s_goto (tgt := 72) (dc kc_X12_readExpression_0 22 rfl) rfl <| t_i2 (dc kc_X12_readExpression_0 38 rfl) (Nat.le_of_ble_eq_true rfl) rfl <| s_goto (tgt := 20) (dc kc_X12_readExpression_0 39 rfl) rfl <| ?_
            exact ded m' tn' p g' x' dn'
      · subst h0 hSe
        refine r_aload_n (dc kc_X12_readExpression_0 12 rfl) rfl <| s_getZ (dc kc_X12_readExpression_0 13 rfl) fl_X12_146 <| s_if_ne (tgt := 76) (dc kc_X12_readExpression_0 14 rfl) rfl (fun c24 => (?_)) (fun c24 => (s_iload_n (dc kc_X12_readExpression_0 15 rfl) rfl <| k_i (dc kc_X12_readExpression_0 16 rfl) rfl <| s_icmp_eq (tgt := 76) (dc kc_X12_readExpression_0 17 rfl) rfl (fun c29 => (?_)) (fun c29 => (s_iload_n (dc kc_X12_readExpression_0 18 rfl) rfl <| s_if_ne (tgt := 43) (dc kc_X12_readExpression_0 19 rfl) rfl (fun c33 => (s_iload_n (dc kc_X12_readExpression_0 23 rfl) rfl <| k_i (dc kc_X12_readExpression_0 24 rfl) rfl <| s_icmp_ne (tgt := 55) (dc kc_X12_readExpression_0 25 rfl) rfl (fun c45 => (?_)) (fun c45 => (?_)))) (fun c33 => (?_))))))
        · exfalso; omega
        · exfalso; omega
        · exfalso; omega
        · refine r_aload_n (dc kc_X12_readExpression_0 26 rfl) rfl <| c_v0r (dc kc_X12_readExpression_0 27 rfl) cl_X12_265 rfl (Nat.le_of_ble_eq_true rfl) (Nat.zero_le _) (Nat.zero_le _) ?_
          refine t_readPartA hL hP (o := o) (ts := ts) (R := R) (tg := tg) (e := e) (pp := pp) (v := v) (c := c ++ nd) hE hC0 hps hR hom ho1 (fun m' tn' P' f' u' b' nd' S' a' g' x' s' k' q' w' r' => ?_) (fun m' tn' p g' x' dn' => ?_)
          · refine s_goto (tgt := 72) (dc kc_X12_readExpression_0 28 rfl) rfl <| t_i2 (dc kc_X12_readExpression_0 38 rfl) (Nat.le_of_ble_eq_true rfl) rfl <| s_goto (tgt := 20) (dc kc_X12_readExpression_0 39 rfl) rfl <| ?_
            exact nxt m' tn' P' f' u' b' nd' S' a' g' x' s' (by omega) (by omega) (by omega) (by omega) r'
          · refine s_goto (tgt := 72) (dc kc_X12_readExpression_0 28 rfl) rfl <| t_i2 (dc kc_X12_readExpression_0 38 rfl) (Nat.le_of_ble_eq_true rfl) rfl <| s_goto (tgt := 20) (dc kc_X12_readExpression_0 39 rfl) rfl <| ?_
            exact ded m' tn' p g' x' (dn'.mono (by omega))
        · exfalso; omega
      · subst h0 hSe
        refine r_aload_n (dc kc_X12_readExpression_0 12 rfl) rfl <| s_getZ (dc kc_X12_readExpression_0 13 rfl) fl_X12_146 <| s_if_ne (tgt := 76) (dc kc_X12_readExpression_0 14 rfl) rfl (fun c24 => (?_)) (fun c24 => (s_iload_n (dc kc_X12_readExpression_0 15 rfl) rfl <| k_i (dc kc_X12_readExpression_0 16 rfl) rfl <| s_icmp_eq (tgt := 76) (dc kc_X12_readExpression_0 17 rfl) rfl (fun c29 => (?_)) (fun c29 => (s_iload_n (dc kc_X12_readExpression_0 18 rfl) rfl <| s_if_ne (tgt := 43) (dc kc_X12_readExpression_0 19 rfl) rfl (fun c33 => (s_iload_n (dc kc_X12_readExpression_0 23 rfl) rfl <| k_i (dc kc_X12_readExpression_0 24 rfl) rfl <| s_icmp_ne (tgt := 55) (dc kc_X12_readExpression_0 25 rfl) rfl (fun c45 => (s_iload_n (dc kc_X12_readExpression_0 29 rfl) rfl <| k_i (dc kc_X12_readExpression_0 30 rfl) rfl <| s_icmp_ne (tgt := 68) (dc kc_X12_readExpression_0 31 rfl) rfl (fun c57 => (?_)) (fun c57 => (?_)))) (fun c45 => (?_)))) (fun c33 => (?_))))))
        · exfalso; omega
        · exfalso; omega
        · exfalso; omega
        · refine r_aload_n (dc kc_X12_readExpression_0 32 rfl) rfl <| s_iload_n (dc kc_X12_readExpression_0 33 rfl) rfl <| c_v1r (dc kc_X12_readExpression_0 34 rfl) cl_X12_286 rfl (Nat.le_of_ble_eq_true rfl) (Nat.zero_le _) (Nat.zero_le _) ?_
          refine t_behindSumA hL hP (o := o) (ts := ts) (R := R) (tg := tg) (e := e) (pp := pp) (v := v) (c := c ++ nd) hE hC0 hps hR hx (fun m' tn' P' f' u' b' nd' S' a' g' x' s' k' q' w' r' => ?_) (fun m' tn' p g' x' dn' => ?_)
          · refine s_goto (tgt := 72) (dc kc_X12_readExpression_0 35 rfl) rfl <| t_i2 (dc kc_X12_readExpression_0 38 rfl) (Nat.le_of_ble_eq_true rfl) rfl <| s_goto (tgt := 20) (dc kc_X12_readExpression_0 39 rfl) rfl <| ?_
            exact nxt m' tn' P' f' u' b' nd' S' a' g' x' s' (by omega) (by omega) (by omega) (by omega) r'
          · refine s_goto (tgt := 72) (dc kc_X12_readExpression_0 35 rfl) rfl <| t_i2 (dc kc_X12_readExpression_0 38 rfl) (Nat.le_of_ble_eq_true rfl) rfl <| s_goto (tgt := 20) (dc kc_X12_readExpression_0 39 rfl) rfl <| ?_
            exact ded m' tn' p g' x' dn'
        · exfalso; omega
        · exfalso; omega
      · subst h0 hSe
        have tst : Run (d+9) mt_X12_readExpression Q (n, mr, 0, 0) m 68 [vR (some (0, 80)), vI x, vI 2] [] := by
          refine r_aload_n (dc kc_X12_readExpression_0 36 rfl) rfl <| c_v0r (dc kc_X12_readExpression_0 37 rfl) cl_X12_290 rfl (Nat.le_of_ble_eq_true rfl) (Nat.zero_le _) (Nat.zero_le _) ?_
          refine t_behindTestA hL hP (o := o) (ts := ts) (R := R) (tg := tg) (e := e) (pp := pp) (v := v) (c := c ++ nd) hE hC0 htd h7 hR (fun m' tn' P' f' u' b' nd' S' a' g' x' s' k' q' w' r' => ?_) (fun m' tn' p g' x' dn' => ?_)
          · refine t_i2 (dc kc_X12_readExpression_0 38 rfl) (Nat.le_of_ble_eq_true rfl) rfl <| s_goto (tgt := 20) (dc kc_X12_readExpression_0 39 rfl) rfl <| ?_
            exact nxt m' tn' P' f' u' b' nd' S' a' g' x' s' (by omega) (by omega) (by omega) (by omega) r'
          · refine t_i2 (dc kc_X12_readExpression_0 38 rfl) (Nat.le_of_ble_eq_true rfl) rfl <| s_goto (tgt := 20) (dc kc_X12_readExpression_0 39 rfl) rfl <| ?_
            exact ded m' tn' p g' x' dn'
        refine r_aload_n (dc kc_X12_readExpression_0 12 rfl) rfl <| s_getZ (dc kc_X12_readExpression_0 13 rfl) fl_X12_146 <| s_if_ne (tgt := 76) (dc kc_X12_readExpression_0 14 rfl) rfl (fun c24 => (?_)) (fun c24 => (s_iload_n (dc kc_X12_readExpression_0 15 rfl) rfl <| k_i (dc kc_X12_readExpression_0 16 rfl) rfl <| s_icmp_eq (tgt := 76) (dc kc_X12_readExpression_0 17 rfl) rfl (fun c29 => (?_)) (fun c29 => (s_iload_n (dc kc_X12_readExpression_0 18 rfl) rfl <| s_if_ne (tgt := 43) (dc kc_X12_readExpression_0 19 rfl) rfl (fun c33 => (s_iload_n (dc kc_X12_readExpression_0 23 rfl) rfl <| k_i (dc kc_X12_readExpression_0 24 rfl) rfl <| s_icmp_ne (tgt := 55) (dc kc_X12_readExpression_0 25 rfl) rfl (fun c45 => (s_iload_n (dc kc_X12_readExpression_0 29 rfl) rfl <| k_i (dc kc_X12_readExpression_0 30 rfl) rfl <| s_icmp_ne (tgt := 68) (dc kc_X12_readExpression_0 31 rfl) rfl (fun c57 => (?_)) (fun c57 => (?_)))) (fun c45 => (?_)))) (fun c33 => (?_))))))
        all_goals first | (exfalso; omega) | exact tst
      · subst h0
        refine r_aload_n (dc kc_X12_readExpression_0 12 rfl) rfl <| s_getZ (dc kc_X12_readExpression_0 13 rfl) fl_X12_146 <| s_if_ne (tgt := 76) (dc kc_X12_readExpression_0 14 rfl) rfl (fun c24 => (?_)) (fun c24 => (s_iload_n (dc kc_X12_readExpression_0 15 rfl) rfl <| k_i (dc kc_X12_readExpression_0 16 rfl) rfl <| s_icmp_eq (tgt := 76) (dc kc_X12_readExpression_0 17 rfl) rfl (fun c29 => (?_)) (fun c29 => (?_))))
        · exfalso; omega
        · exact fin m P f1 u1 b1 nd S a 4 gm hE hO (by omega) ha hRh
        · exfalso; omega
  have gc : Ch (fun j k => j == 80 && (k == 24 || k == 25)) mi (up (up mi 0 80 24 0) 0 80 25 0) := (Ch.rf.up (by simp)).up (by simp)
  have g0 : Ch (pPr C0) mi (up (up mi 0 80 24 0) 0 80 25 0) := gc.mono (fun j k z => by simp at z; simp [pPr]; omega)
  have hE0 : EX t N (up (up mi 0 80 24 0) 0 80 25 0) C0 (K ++ []) [] f u 0 := ⟨hA.mv gc (fun k => by simp) (fun k k0 k1 _ => by simp; omega), by simp [up], rfl, by omega, ⟨by simp [up], Arr.nil⟩, by rw [List.append_nil]; exact hC.mv (by simp [up]) (by rw [up_j (by decide), up_j (by decide)]) (by rw [up_j (by decide), up_j (by decide)]), by simp [up]; exact hw, by simp; omega⟩
  refine tx_intro (ls := [vR (some (0, 80)), vI x, vX 0]) om_X12_readExpression rfl (Nat.le_of_ble_eq_true rfl) ?_
  refine r_aload_n (dc kc_X12_readExpression_0 0 rfl) rfl <| k_i (dc kc_X12_readExpression_0 1 rfl) rfl <| s_putI (dc kc_X12_readExpression_0 2 rfl) fl_X12_194 <| r_aload_n (dc kc_X12_readExpression_0 3 rfl) rfl <| k_i (dc kc_X12_readExpression_0 4 rfl) rfl <| s_putI (dc kc_X12_readExpression_0 5 rfl) fl_X12_212 <| s_iload_n (dc kc_X12_readExpression_0 6 rfl) rfl <| s_if_eq (tgt := 18) (dc kc_X12_readExpression_0 7 rfl) rfl (fun c11 => (k_i (dc kc_X12_readExpression_0 10 rfl) rfl <| t_i2 (dc kc_X12_readExpression_0 11 rfl) (Nat.le_of_ble_eq_true rfl) rfl <| ?_)) (fun c11 => (k_i (dc kc_X12_readExpression_0 8 rfl) rfl <| s_goto (tgt := 19) (dc kc_X12_readExpression_0 9 rfl) rfl <| t_i2 (dc kc_X12_readExpression_0 11 rfl) (Nat.le_of_ble_eq_true rfl) rfl <| ?_))
  · have hts : ts = false := by
      cases ts with
      | false => rfl
      | true => rw [if_pos rfl] at hx; omega
    subst hts
    refine loop _ _ 1 [] f u 0 [] (722 :: Jst false R []) 1 (Nat.lt_succ_self _) g0 hE0 (Or.inr (Or.inl ⟨rfl, trivial, rfl⟩)) (by omega) (by omega) (by simp) ?_
    rw [← hs0, List.append_nil]
    exact rul_0 (L := [722, 721]) (by decide) (by omega) prd_720
  · have hts : ts = true := by
      cases ts with
      | true => rfl
      | false => rw [if_neg (by decide)] at hx; omega
    subst hts
    refine loop _ _ 0 [] f u 0 [] (714 :: Kst true R []) (1 + 1) (Nat.lt_succ_self _) g0 hE0 (Or.inl ⟨rfl, rfl, rfl⟩) (by omega) (by omega) (by simp) ?_
    rw [← hs0, List.append_nil]
    exact (rul_0 (L := [712, 711]) (by decide) (by omega) prd_710).tr (rul_0 (L := [714, 713]) (by decide) (by show (711 :: R).length < 250; rw [List.length_cons]; omega) prd_712)
end RXE
