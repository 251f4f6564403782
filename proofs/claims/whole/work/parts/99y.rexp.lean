/-! the reference: expressions, where it has failed -/
theorem DX.of {t : Int → Int} {N p : Int} {m m' : MI} (h : RB m' p) (h20 : 0 ≤ m' 0 80 20) (h24 : 0 ≤ m' 0 80 24) (h4 : m' 0 80 20 + m' 0 80 24 ≤ 400) (h5 : -100 ≤ m' 0 80 25 ∧ m' 0 80 25 ≤ 100) : DX t N m' p := ⟨Or.inr h, h20, h24, h4, fun z => by have := h.1; omega, h5⟩
theorem pr_push {C0 z x y : Int} {m m' : MI} (h : Ch (pPr C0) m m') : Ch (pPr C0) m (up (up m' 0 89 z x) 0 80 24 y) := (h.up (by simp [pPr])).up (by simp [pPr])
theorem ch_push {z x y : Int} {m : MI} : Ch (fun j k => j == 89 || (j == 80 && k == 24)) m (up (up m 0 89 z x) 0 80 24 y) := (Ch.rf.up (by simp)).up (by simp)
theorem pr_Stl {C0 : Int} {m m' : MI} (h : Ch pStl m m') (hf : ∀ (b : Nat) (k : Int), (b = 87 ∨ b = 88) → k < m 0 80 20 → m' 0 b k = m 0 b k) (hC : C0 ≤ m 0 80 20) : Ch (pPr C0) m m' := fun g j k => by
  rcases h g j k with z | z
  · by_cases hb : j = 87 ∨ j = 88
    · by_cases hk : k < m 0 80 20
      · right
        obtain ⟨z1, -⟩ := z
        subst z1
        exact hf j k hb hk
      · left
        refine ⟨z.1, ?_⟩
        simp [pPr]; omega
    · left
      refine ⟨z.1, ?_⟩
      have := z.2
      simp [pStl] at this
      simp [pPr]; omega
  · exact Or.inr z
section RXD
variable {d n G : Nat} {mr : MR} {Q : V → MI → Nat → MR → Prop} {t : Int → Int} {N : Int}
theorem t_readPartD (hL : Lay G mr) {mi : MI} {C0 p : Int} (hC0 : C0 ≤ mi 0 80 20) (hD : RD t N mi p) (hX : DX t N mi p) (hN : N ≤ 400) (hQ : ∀ m' tn, Ch (pPr C0) mi m' → RB m' p → DX t N m' p → Q (vI tn) m' n mr) : Tx (d+7) mt_X12_readPart [vR (some (0, 80))] mi n mr Q := by
  obtain ⟨-, h0, h1, h4, hp, h5⟩ := hX
  have e17 := hD.b
  have hpN := hD.2.2.2.2.2.2
  have hp := hp e17
  have tl : ∀ (m2 : MI) (x1 x2 : V), Ch (pPr C0) mi m2 → Dd t N m2 p → m2 0 80 20 = mi 0 80 20 → m2 0 80 24 = mi 0 80 24 → m2 0 80 25 = mi 0 80 25 → ∀ op : Int, Run (d+7) mt_X12_readPart Q (n, mr, 0, 0) m2 136 [vR (some (0, 80)), vI op, x2] [] := by
    intro m2 x1 x2 g2 h2 q20 q24 q25 op
    have fin : ∀ mm : Int, Run (d+7) mt_X12_readPart Q (n, mr, 0, 0) m2 150 [vR (some (0, 80)), vI op, x2] [vL mm, vR (some (0, 80))] := fun mm => by
      refine c_v1r (dc kc_X12_readPart_1 32 rfl) cl_X12_237 rfl (Nat.le_of_ble_eq_true rfl) (Nat.zero_le _) (Nat.zero_le _) ?_
      refine t_numberD hL h2 (fun m3 y g3 h3 => ?_)
      have e17 := h3.1
      refine t_i2 (dc kc_X12_readPart_1 33 rfl) (Nat.le_of_ble_eq_true rfl) rfl <| r_aload_n (dc kc_X12_readPart_1 34 rfl) rfl <| s_getZ (dc kc_X12_readPart_1 35 rfl) fl_X12_146 <| s_if_ne (tgt := 167) (dc kc_X12_readPart_1 36 rfl) rfl (fun c158 => (k_i (dc kc_X12_readPart_2 1 rfl) rfl <| s_ireturn (dc kc_X12_readPart_2 2 rfl) rfl (Nat.zero_le _) (Nat.zero_le _) ?_)) (fun c158 => (?_))
      · exact hQ m3 _ (g2.tr (pr_Tq g3)) h3 (DX.of (m := m3) h3 (by rw [g3.at (by simp [pTq])]; omega) (by rw [g3.at (by simp [pTq])]; omega) (by rw [g3.at (by simp [pTq]), g3.at (by simp [pTq])]; omega) (by rw [g3.at (by simp [pTq])]; omega))
      · exfalso; omega
    refine r_aload_n (dc kc_X12_readPart_1 26 rfl) rfl <| s_iload_n (dc kc_X12_readPart_1 27 rfl) rfl <| s_if_ne (tgt := 147) (dc kc_X12_readPart_1 28 rfl) rfl (fun c138 => (k_j (dc kc_X12_readPart_1 31 rfl) kj_X12_235 rfl (a := 2) (by decide) <| ?_)) (fun c138 => (k_j (dc kc_X12_readPart_1 29 rfl) kj_X12_261 rfl (a := 99) (by decide) <| s_goto (tgt := 150) (dc kc_X12_readPart_1 30 rfl) rfl <| ?_))
    · exact fin _
    · exact fin _
  have rest : Run (d+7) mt_X12_readPart Q (n, mr, 0, 0) mi 84 [vR (some (0, 80)), vX 0, vX 0] [] := by
    have st : ∀ op : Int, Run (d+7) mt_X12_readPart Q (n, mr, 0, 0) mi 127 [vR (some (0, 80)), vX 0, vX 0] [vI op] := fun op => by
      refine t_i1 (dc kc_X12_readPart_1 21 rfl) (Nat.le_of_ble_eq_true rfl) rfl <| s_iload_n (dc kc_X12_readPart_1 22 rfl) rfl <| s_if_eq (tgt := 136) (dc kc_X12_readPart_1 23 rfl) rfl (fun c129 => (?_)) (fun c129 => (r_aload_n (dc kc_X12_readPart_1 24 rfl) rfl <| c_v0 (dc kc_X12_readPart_1 25 rfl) cl_X12_184 rfl (Nat.le_of_ble_eq_true rfl) (Nat.zero_le _) (Nat.zero_le _) ?_))
      · exact tl mi (vX 0) _ Ch.rf (Or.inl hD) rfl rfl rfl op
      · refine t_passD hL (Or.inl hD) (fun m2 g2 h2 => ?_)
        exact tl m2 (vX 0) _ (pr_Tq g2) (Or.inr h2) (g2.at (by simp [pTq])) (g2.at (by simp [pTq])) (g2.at (by simp [pTq])) op
    refine r_aload_n (dc kc_X12_readPart_1 2 rfl) rfl <| k_j (dc kc_X12_readPart_1 3 rfl) kj_X12_255 rfl (a := 460197) (by decide) <| c_v1r (dc kc_X12_readPart_1 4 rfl) cl_X12_220 rfl (Nat.le_of_ble_eq_true rfl) (Nat.zero_le _) (Nat.zero_le _) <| t_isWord <| s_if_eqb (tgt := 98) (dc kc_X12_readPart_1 5 rfl) rfl (fun c91 => (r_aload_n (dc kc_X12_readPart_1 8 rfl) rfl <| k_j (dc kc_X12_readPart_1 9 rfl) kj_X12_257 rfl (a := 408362632) (by decide) <| c_v1r (dc kc_X12_readPart_1 10 rfl) cl_X12_220 rfl (Nat.le_of_ble_eq_true rfl) (Nat.zero_le _) (Nat.zero_le _) <| t_isWord <| s_if_eqb (tgt := 112) (dc kc_X12_readPart_1 11 rfl) rfl (fun c105 => (r_aload_n (dc kc_X12_readPart_1 14 rfl) rfl <| k_j (dc kc_X12_readPart_1 15 rfl) kj_X12_259 rfl (a := 21483564) (by decide) <| c_v1r (dc kc_X12_readPart_1 16 rfl) cl_X12_220 rfl (Nat.le_of_ble_eq_true rfl) (Nat.zero_le _) (Nat.zero_le _) <| t_isWord <| s_if_eqb (tgt := 126) (dc kc_X12_readPart_1 17 rfl) rfl (fun c119 => (k_i (dc kc_X12_readPart_1 20 rfl) rfl <| ?_)) (fun c119 => (k_i (dc kc_X12_readPart_1 18 rfl) rfl <| s_goto (tgt := 127) (dc kc_X12_readPart_1 19 rfl) rfl <| ?_)))) (fun c105 => (k_i (dc kc_X12_readPart_1 12 rfl) rfl <| s_goto (tgt := 127) (dc kc_X12_readPart_1 13 rfl) rfl <| ?_)))) (fun c91 => (k_i (dc kc_X12_readPart_1 6 rfl) rfl <| s_goto (tgt := 127) (dc kc_X12_readPart_1 7 rfl) rfl <| ?_))
    all_goals exact st _
  refine tx_intro (ls := [vR (some (0, 80)), vX 0, vX 0]) om_X12_readPart rfl (Nat.le_of_ble_eq_true rfl) ?_
  refine r_aload_n (dc kc_X12_readPart_0 0 rfl) rfl <| k_b (dc kc_X12_readPart_0 1 rfl) rfl <| c_v1r (dc kc_X12_readPart_0 2 rfl) cl_X12_215 rfl (Nat.le_of_ble_eq_true rfl) (Nat.zero_le _) (Nat.zero_le _) <| t_isSign <| s_if_eqb (tgt := 22) (dc kc_X12_readPart_0 3 rfl) rfl (fun c6 => (r_aload_n (dc kc_X12_readPart_0 12 rfl) rfl <| s_getZ (dc kc_X12_readPart_0 13 rfl) fl_X12_247 <| s_if_eq (tgt := 84) (dc kc_X12_readPart_0 14 rfl) rfl (fun c26 => (?_)) (fun c26 => (r_aload_n (dc kc_X12_readPart_0 15 rfl) rfl <| k_j (dc kc_X12_readPart_0 16 rfl) kj_X12_250 rfl (a := 11449) (by decide) <| c_v1r (dc kc_X12_readPart_0 17 rfl) cl_X12_220 rfl (Nat.le_of_ble_eq_true rfl) (Nat.zero_le _) (Nat.zero_le _) <| t_isWord <| s_if_eqb (tgt := 84) (dc kc_X12_readPart_0 18 rfl) rfl (fun c36 => (?_)) (fun c36 => (?_)))))) (fun c6 => (r_aload_n (dc kc_X12_readPart_0 4 rfl) rfl <| k_i (dc kc_X12_readPart_0 5 rfl) rfl <| c_v1 (dc kc_X12_readPart_0 6 rfl) cl_X12_226 rfl (Nat.le_of_ble_eq_true rfl) (Nat.zero_le _) (Nat.zero_le _) ?_))
  · exact rest
  · exact rest
  · refine r_aload_n (dc kc_X12_readPart_0 19 rfl) rfl <| c_v0 (dc kc_X12_readPart_0 20 rfl) cl_X12_184 rfl (Nat.le_of_ble_eq_true rfl) (Nat.zero_le _) (Nat.zero_le _) ?_
    refine t_passD hL (Or.inl hD) (fun m2 g2 h2 => ?_)
    have q25 : m2 0 80 25 = mi 0 80 25 := g2.at (by simp [pTq])
    refine r_aload_n (dc kc_X12_readPart_0 21 rfl) rfl <| r_aload_n (dc kc_X12_readPart_0 22 rfl) rfl <| k_b (dc kc_X12_readPart_0 23 rfl) rfl <| c_v1r (dc kc_X12_readPart_0 24 rfl) cl_X12_215 rfl (Nat.le_of_ble_eq_true rfl) (Nat.zero_le _) (Nat.zero_le _) <| t_isSign <| c_v1 (dc kc_X12_readPart_0 25 rfl) cl_X12_226 rfl (Nat.le_of_ble_eq_true rfl) (Nat.zero_le _) (Nat.zero_le _) ?_
    refine t_openD hL (t := t) (N := N) bi_01 (Or.inr h2) (by omega) (fun m3 g3 h3 e3 => ?_)
    have e17 := h3.1
    refine r_aload_n (dc kc_X12_readPart_0 26 rfl) rfl <| s_getZ (dc kc_X12_readPart_0 27 rfl) fl_X12_146 <| s_if_ne (tgt := 64) (dc kc_X12_readPart_0 28 rfl) rfl (fun c57 => (r_aload_n (dc kc_X12_readPart_0 31 rfl) rfl <| s_getZ (dc kc_X12_readPart_0 32 rfl) fl_X12_146 <| s_if_ne (tgt := 82) (dc kc_X12_readPart_0 33 rfl) rfl (fun c68 => (k_i (dc kc_X12_readPart_1 0 rfl) rfl <| s_ireturn (dc kc_X12_readPart_1 1 rfl) rfl (Nat.zero_le _) (Nat.zero_le _) ?_)) (fun c68 => (?_)))) (fun c57 => (?_))
    · exact hQ m3 _ ((pr_Tq g2).tr (pr_Op g3)) h3 (DX.of (m := m3) h3 (by rw [g3.at (by simp [pOpn]), g2.at (by simp [pTq])]; omega) (by rw [g3.at (by simp [pOpn]), g2.at (by simp [pTq])]; omega) (by rw [g3.at (by simp [pOpn]), g2.at (by simp [pTq]), g3.at (by simp [pOpn]), g2.at (by simp [pTq])]; omega) (by omega))
    · exfalso; omega
    · exfalso; omega
  · refine t_openD hL (Or.inr rfl) (Or.inl hD) h5 (fun m3 g3 h3 e3 => ?_)
    have r24 : m3 0 80 24 = mi 0 80 24 := g3.at (by simp [pOpn])
    have r20 : m3 0 80 20 = mi 0 80 20 := g3.at (by simp [pOpn])
    refine r_aload_n (dc kc_X12_readPart_0 7 rfl) rfl <| k_b (dc kc_X12_readPart_0 8 rfl) rfl <| c_v1 (dc kc_X12_readPart_0 9 rfl) cl_X12_244 rfl (Nat.le_of_ble_eq_true rfl) (Nat.zero_le _) (Nat.zero_le _) ?_
    refine t_push hL (by omega) (by omega) ?_
    refine k_i (dc kc_X12_readPart_0 10 rfl) rfl <| s_ireturn (dc kc_X12_readPart_0 11 rfl) rfl (Nat.zero_le _) (Nat.zero_le _) ?_
    exact hQ _ _ (pr_push (pr_Op g3)) (h3.mv ch_push (fun k k0 k1 => by simp; omega)) (DX.of (m := m3) (h3.mv ch_push (fun k k0 k1 => by simp; omega)) (by simp [up]; omega) (by simp [up]; omega) (by simp [up]; omega) (by simp [up]; omega))
theorem t_readPlainD (hL : Lay G mr) {mi : MI} {C0 p : Int} (hC0 : C0 ≤ mi 0 80 20) (hD : RD t N mi p) (hX : DX t N mi p) (hN : N ≤ 400) (hQ : ∀ m' tn, Ch (pPr C0) mi m' → RB m' p → DX t N m' p → Q (vI tn) m' n mr) : Tx (d+8) mt_X12_readPlain [vR (some (0, 80))] mi n mr Q := by
  obtain ⟨-, h0, h1, h4, hp, h5⟩ := id hX
  have e17 := hD.b
  have hpN := hD.2.2.2.2.2.2
  have hp := hp e17
  refine tx_intro (ls := [vR (some (0, 80))]) om_X12_readPlain rfl (Nat.le_of_ble_eq_true rfl) ?_
  refine r_aload_n (dc kc_X12_readPlain 0 rfl) rfl <| k_j (dc kc_X12_readPlain 1 rfl) kj_X12_263 rfl (a := 14836) (by decide) <| c_v1r (dc kc_X12_readPlain 2 rfl) cl_X12_220 rfl (Nat.le_of_ble_eq_true rfl) (Nat.zero_le _) (Nat.zero_le _) <| t_isWord <| s_if_eqb (tgt := 22) (dc kc_X12_readPlain 3 rfl) rfl (fun c7 => (r_aload_n (dc kc_X12_readPlain 11 rfl) rfl <| k_b (dc kc_X12_readPlain 12 rfl) rfl <| c_v1r (dc kc_X12_readPlain 13 rfl) cl_X12_215 rfl (Nat.le_of_ble_eq_true rfl) (Nat.zero_le _) (Nat.zero_le _) <| t_isSign <| s_if_eqb (tgt := 44) (dc kc_X12_readPlain 14 rfl) rfl (fun c28 => (r_aload_n (dc kc_X12_readPlain 23 rfl) rfl <| c_v0r (dc kc_X12_readPlain 24 rfl) cl_X12_265 rfl (Nat.le_of_ble_eq_true rfl) (Nat.zero_le _) (Nat.zero_le _) ?_)) (fun c28 => (r_aload_n (dc kc_X12_readPlain 15 rfl) rfl <| k_i (dc kc_X12_readPlain 16 rfl) rfl <| c_v1 (dc kc_X12_readPlain 17 rfl) cl_X12_226 rfl (Nat.le_of_ble_eq_true rfl) (Nat.zero_le _) (Nat.zero_le _) ?_)))) (fun c7 => (r_aload_n (dc kc_X12_readPlain 4 rfl) rfl <| k_b (dc kc_X12_readPlain 5 rfl) rfl <| c_v1 (dc kc_X12_readPlain 6 rfl) cl_X12_244 rfl (Nat.le_of_ble_eq_true rfl) (Nat.zero_le _) (Nat.zero_le _) ?_))
  · refine t_readPartD hL hC0 hD hX hN (fun m2 tn g2 h2 x2 => ?_)
    refine s_ireturn (dc kc_X12_readPlain 25 rfl) rfl (Nat.zero_le _) (Nat.zero_le _) ?_
    exact hQ m2 tn g2 h2 x2
  · refine t_openD hL (Or.inr rfl) (Or.inl hD) h5 (fun m3 g3 h3 e3 => ?_)
    have r24 : m3 0 80 24 = mi 0 80 24 := g3.at (by simp [pOpn])
    have r20 : m3 0 80 20 = mi 0 80 20 := g3.at (by simp [pOpn])
    refine r_aload_n (dc kc_X12_readPlain 18 rfl) rfl <| k_b (dc kc_X12_readPlain 19 rfl) rfl <| c_v1 (dc kc_X12_readPlain 20 rfl) cl_X12_244 rfl (Nat.le_of_ble_eq_true rfl) (Nat.zero_le _) (Nat.zero_le _) ?_
    refine t_push hL (by omega) (by omega) ?_
    refine k_i (dc kc_X12_readPlain 21 rfl) rfl <| s_ireturn (dc kc_X12_readPlain 22 rfl) rfl (Nat.zero_le _) (Nat.zero_le _) ?_
    exact hQ _ _ (pr_push (pr_Op g3)) (h3.mv ch_push (fun k k0 k1 => by simp; omega)) (DX.of (m := m3) (h3.mv ch_push (fun k k0 k1 => by simp; omega)) (by simp [up]; omega) (by simp [up]; omega) (by simp [up]; omega) (by simp [up]; omega))
  · refine t_push hL (by omega) (by omega) ?_
    refine r_aload_n (dc kc_X12_readPlain 7 rfl) rfl <| c_v0 (dc kc_X12_readPlain 8 rfl) cl_X12_184 rfl (Nat.le_of_ble_eq_true rfl) (Nat.zero_le _) (Nat.zero_le _) ?_
    refine t_passD hL (Or.inl (hD.mv ch_push (fun k => by simp) (fun k k0 k1 => by simp; omega))) (fun m2 g2 h2 => ?_)
    refine k_i (dc kc_X12_readPlain 9 rfl) rfl <| s_ireturn (dc kc_X12_readPlain 10 rfl) rfl (Nat.zero_le _) (Nat.zero_le _) ?_
    refine hQ m2 _ ((pr_push Ch.rf).tr (pr_Tq g2)) h2 (DX.of (m := m2) h2 ?_ ?_ ?_ ?_)
    · rw [g2.at (by simp [pTq])]; simp [up]; omega
    · rw [g2.at (by simp [pTq])]; simp [up]; omega
    · rw [g2.at (by simp [pTq]), g2.at (by simp [pTq])]; simp [up]; omega
    · rw [g2.at (by simp [pTq])]; simp [up]; omega
/-- behind a sum: it fails now, or the turn is over (4), or told (2) and nothing has changed -/
theorem t_behindSumD (hL : Lay G mr) {mi : MI} {C0 p x : Int} (hx : x = 0 ∨ x = 1) (hC0 : C0 ≤ mi 0 80 20) (hD : RD t N mi p) (hX : DX t N mi p) (hN : N ≤ 400) (hQ : ∀ m' tn, Ch (pPr C0) mi m' → RB m' p → DX t N m' p → Q (vI tn) m' n mr) (hQ2 : ∀ tn, tn = 2 ∨ tn = 4 → Q (vI tn) mi n mr) : Tx (d+8) mt_X12_behindSum [vR (some (0, 80)), vI x] mi n mr Q := by
  obtain ⟨-, h0, h1, h4, hp, h5⟩ := id hX
  have e17 := hD.b
  have hpN := hD.2.2.2.2.2.2
  have hp := hp e17
  obtain ⟨P, hP⟩ := Pil.ex h1
  have hPl := hP.1
  have mus : ∀ (y : Int) (x2 x3 : V), (y = 0 ∨ y = 1) → ∀ z3 : Int, Run (d+8) mt_X12_behindSum Q (n, mr, 0, 0) mi 176 [vR (some (0, 80)), vI x, x2, vI z3] [vI y, vR (some (0, 80))] := fun y x2 x3 hy z3 => by
    refine c_v1 (dc kc_X12_behindSum_2 12 rfl) cl_X12_187 rfl (Nat.le_of_ble_eq_true rfl) (Nat.zero_le _) (Nat.zero_le _) ?_
    refine t_mustD hL hy (Or.inl hD) (fun m2 g2 h2 => ?_)
    have e17 := h2.1
    refine r_aload_n (dc kc_X12_behindSum_2 13 rfl) rfl <| s_getZ (dc kc_X12_behindSum_2 14 rfl) fl_X12_146 <| s_if_ne (tgt := 196) (dc kc_X12_behindSum_2 15 rfl) rfl (fun c183 => (k_i (dc kc_X12_behindSum_2 22 rfl) rfl <| s_ireturn (dc kc_X12_behindSum_2 23 rfl) rfl (Nat.zero_le _) (Nat.zero_le _) ?_)) (fun c183 => (?_))
    · exact hQ m2 _ (pr_Tq g2) h2 (DX.of (m := m2) h2 (by rw [g2.at (by simp [pTq])]; omega) (by rw [g2.at (by simp [pTq])]; omega) (by rw [g2.at (by simp [pTq]), g2.at (by simp [pTq])]; omega) (by rw [g2.at (by simp [pTq])]; omega))
    · exfalso; omega
  have pm : Run (d+8) mt_X12_behindSum Q (n, mr, 0, 0) mi 18 [vR (some (0, 80)), vI x, vX 0, vX 0] [] := by
    refine r_aload_n (dc kc_X12_behindSum_0 8 rfl) rfl <| k_i (dc kc_X12_behindSum_0 9 rfl) rfl <| c_v1 (dc kc_X12_behindSum_0 10 rfl) cl_X12_269 rfl (Nat.le_of_ble_eq_true rfl) (Nat.zero_le _) (Nat.zero_le _) ?_
    refine t_settleD hL h0 h1 h4 (fun m2 g2 q0 q1 q2 q3 q4 => ?_)
    have r25 : m2 0 80 25 = mi 0 80 25 := g2.at (by simp [pStl])
    have ps : ∀ op : Int, Run (d+8) mt_X12_behindSum Q (n, mr, 0, 0) m2 40 [vR (some (0, 80)), vI x, vX 0, vX 0] [vI op, vR (some (0, 80))] := fun op => by
      refine c_v1 (dc kc_X12_behindSum_0 19 rfl) cl_X12_244 rfl (Nat.le_of_ble_eq_true rfl) (Nat.zero_le _) (Nat.zero_le _) ?_
      refine t_push hL (by omega) (by omega) ?_
      refine r_aload_n (dc kc_X12_behindSum_0 20 rfl) rfl <| c_v0 (dc kc_X12_behindSum_0 21 rfl) cl_X12_184 rfl (Nat.le_of_ble_eq_true rfl) (Nat.zero_le _) (Nat.zero_le _) ?_
      refine t_passD hL (Or.inl ((hD.mv g2 (fun k => by simp [pStl]) (fun k k0 k1 => by simp [pStl]; omega)).mv ch_push (fun k => by simp) (fun k k0 k1 => by simp; omega))) (fun m3 g3 h3 => ?_)
      refine k_i (dc kc_X12_behindSum_0 22 rfl) rfl <| s_ireturn (dc kc_X12_behindSum_0 23 rfl) rfl (Nat.zero_le _) (Nat.zero_le _) ?_
      refine hQ m3 _ ((pr_push (pr_Stl g2 q3 hC0)).tr (pr_Tq g3)) h3 (DX.of (m := m3) h3 ?_ ?_ ?_ ?_)
      · rw [g3.at (by simp [pTq])]; simp [up]; omega
      · rw [g3.at (by simp [pTq])]; simp [up]; omega
      · rw [g3.at (by simp [pTq]), g3.at (by simp [pTq])]; simp [up]; omega
      · rw [g3.at (by simp [pTq])]; simp [up]; omega
    refine r_aload_n (dc kc_X12_behindSum_0 11 rfl) rfl <| r_aload_n (dc kc_X12_behindSum_0 12 rfl) rfl <| k_b (dc kc_X12_behindSum_0 13 rfl) rfl <| c_v1r (dc kc_X12_behindSum_0 14 rfl) cl_X12_215 rfl (Nat.le_of_ble_eq_true rfl) (Nat.zero_le _) (Nat.zero_le _) <| t_isSign <| s_if_eqb (tgt := 38) (dc kc_X12_behindSum_0 15 rfl) rfl (fun c30 => (k_b (dc kc_X12_behindSum_0 18 rfl) rfl <| ?_)) (fun c30 => (k_b (dc kc_X12_behindSum_0 16 rfl) rfl <| s_goto (tgt := 40) (dc kc_X12_behindSum_0 17 rfl) rfl <| ?_))
    · exact ps _
    · exact ps _
  have rest : Run (d+8) mt_X12_behindSum Q (n, mr, 0, 0) mi 49 [vR (some (0, 80)), vI x, vX 0, vX 0] [] := by
    have cmp : Run (d+8) mt_X12_behindSum Q (n, mr, 0, 0) mi 115 [vR (some (0, 80)), vI x, vI (inn P), vX 0] [] := by
      refine r_aload_n (dc kc_X12_behindSum_1 22 rfl) rfl <| c_v0r (dc kc_X12_behindSum_1 23 rfl) cl_X12_275 rfl (Nat.le_of_ble_eq_true rfl) (Nat.zero_le _) (Nat.zero_le _) ?_
      refine t_isCompared hL hP (by omega) (fun _ => ?_) (fun _ => ?_)
      · refine s_if_eq (tgt := 124) (dc kc_X12_behindSum_1 24 rfl) rfl (fun c119 => (?_)) (fun c119 => (k_i (dc kc_X12_behindSum_1 25 rfl) rfl <| s_ireturn (dc kc_X12_behindSum_1 26 rfl) rfl (Nat.zero_le _) (Nat.zero_le _) ?_))
        · exfalso; omega
        · exact hQ2 2 (Or.inl rfl)
      · refine s_if_eq (tgt := 124) (dc kc_X12_behindSum_1 24 rfl) rfl (fun c119 => (r_aload_n (dc kc_X12_behindSum_1 27 rfl) rfl <| k_b (dc kc_X12_behindSum_1 28 rfl) rfl <| c_v1r (dc kc_X12_behindSum_1 29 rfl) cl_X12_215 rfl (Nat.le_of_ble_eq_true rfl) (Nat.zero_le _) (Nat.zero_le _) <| t_isSign <| s_if_eqb (tgt := 138) (dc kc_X12_behindSum_1 30 rfl) rfl (fun c130 => (r_aload_n (dc kc_X12_behindSum_1 33 rfl) rfl <| k_b (dc kc_X12_behindSum_1 34 rfl) rfl <| c_v1r (dc kc_X12_behindSum_1 35 rfl) cl_X12_215 rfl (Nat.le_of_ble_eq_true rfl) (Nat.zero_le _) (Nat.zero_le _) <| t_isSign <| s_if_eqb (tgt := 152) (dc kc_X12_behindSum_1 36 rfl) rfl (fun c144 => (k_b (dc kc_X12_behindSum_1 39 rfl) rfl <| t_i3 (dc kc_X12_behindSum_2 0 rfl) (Nat.le_of_ble_eq_true rfl) rfl <| r_aload_n (dc kc_X12_behindSum_2 1 rfl) rfl <| s_iload_n (dc kc_X12_behindSum_2 2 rfl) rfl <| k_b (dc kc_X12_behindSum_2 3 rfl) rfl <| s_icmp_ne (tgt := 171) (dc kc_X12_behindSum_2 4 rfl) rfl (fun c159 => (k_i (dc kc_X12_behindSum_2 9 rfl) rfl <| s_goto (tgt := 176) (dc kc_X12_behindSum_2 10 rfl) rfl <| ?_)) (fun c159 => (r_aload_n (dc kc_X12_behindSum_2 5 rfl) rfl <| k_b (dc kc_X12_behindSum_2 6 rfl) rfl <| c_v1r (dc kc_X12_behindSum_2 7 rfl) cl_X12_215 rfl (Nat.le_of_ble_eq_true rfl) (Nat.zero_le _) (Nat.zero_le _) <| t_isSign <| s_if_eqb (tgt := 175) (dc kc_X12_behindSum_2 8 rfl) rfl (fun c168 => (k_i (dc kc_X12_behindSum_2 11 rfl) rfl <| ?_)) (fun c168 => (k_i (dc kc_X12_behindSum_2 9 rfl) rfl <| s_goto (tgt := 176) (dc kc_X12_behindSum_2 10 rfl) rfl <| ?_)))))) (fun c144 => (k_b (dc kc_X12_behindSum_1 37 rfl) rfl <| s_goto (tgt := 154) (dc kc_X12_behindSum_1 38 rfl) rfl <| t_i3 (dc kc_X12_behindSum_2 0 rfl) (Nat.le_of_ble_eq_true rfl) rfl <| r_aload_n (dc kc_X12_behindSum_2 1 rfl) rfl <| s_iload_n (dc kc_X12_behindSum_2 2 rfl) rfl <| k_b (dc kc_X12_behindSum_2 3 rfl) rfl <| s_icmp_ne (tgt := 171) (dc kc_X12_behindSum_2 4 rfl) rfl (fun c159 => (k_i (dc kc_X12_behindSum_2 9 rfl) rfl <| s_goto (tgt := 176) (dc kc_X12_behindSum_2 10 rfl) rfl <| ?_)) (fun c159 => (r_aload_n (dc kc_X12_behindSum_2 5 rfl) rfl <| k_b (dc kc_X12_behindSum_2 6 rfl) rfl <| c_v1r (dc kc_X12_behindSum_2 7 rfl) cl_X12_215 rfl (Nat.le_of_ble_eq_true rfl) (Nat.zero_le _) (Nat.zero_le _) <| t_isSign <| s_if_eqb (tgt := 175) (dc kc_X12_behindSum_2 8 rfl) rfl (fun c168 => (k_i (dc kc_X12_behindSum_2 11 rfl) rfl <| ?_)) (fun c168 => (k_i (dc kc_X12_behindSum_2 9 rfl) rfl <| s_goto (tgt := 176) (dc kc_X12_behindSum_2 10 rfl) rfl <| ?_)))))))) (fun c130 => (k_b (dc kc_X12_behindSum_1 31 rfl) rfl <| s_goto (tgt := 154) (dc kc_X12_behindSum_1 32 rfl) rfl <| t_i3 (dc kc_X12_behindSum_2 0 rfl) (Nat.le_of_ble_eq_true rfl) rfl <| r_aload_n (dc kc_X12_behindSum_2 1 rfl) rfl <| s_iload_n (dc kc_X12_behindSum_2 2 rfl) rfl <| k_b (dc kc_X12_behindSum_2 3 rfl) rfl <| s_icmp_ne (tgt := 171) (dc kc_X12_behindSum_2 4 rfl) rfl (fun c159 => (k_i (dc kc_X12_behindSum_2 9 rfl) rfl <| s_goto (tgt := 176) (dc kc_X12_behindSum_2 10 rfl) rfl <| ?_)) (fun c159 => (r_aload_n (dc kc_X12_behindSum_2 5 rfl) rfl <| k_b (dc kc_X12_behindSum_2 6 rfl) rfl <| c_v1r (dc kc_X12_behindSum_2 7 rfl) cl_X12_215 rfl (Nat.le_of_ble_eq_true rfl) (Nat.zero_le _) (Nat.zero_le _) <| t_isSign <| s_if_eqb (tgt := 175) (dc kc_X12_behindSum_2 8 rfl) rfl (fun c168 => (k_i (dc kc_X12_behindSum_2 11 rfl) rfl <| ?_)) (fun c168 => (k_i (dc kc_X12_behindSum_2 9 rfl) rfl <| s_goto (tgt := 176) (dc kc_X12_behindSum_2 10 rfl) rfl <| ?_)))))))) (fun c119 => (k_i (dc kc_X12_behindSum_1 25 rfl) rfl <| s_ireturn (dc kc_X12_behindSum_1 26 rfl) rfl (Nat.zero_le _) (Nat.zero_le _) ?_))
        all_goals first | (exfalso; omega) | exact mus 0 _ (vX 0) (Or.inl rfl) _ | exact mus 1 _ (vX 0) (Or.inr rfl) _
    refine r_aload_n (dc kc_X12_behindSum_0 24 rfl) rfl <| c_v0r (dc kc_X12_behindSum_0 25 rfl) cl_X12_272 rfl (Nat.le_of_ble_eq_true rfl) (Nat.zero_le _) (Nat.zero_le _) ?_
    refine t_inner hL hP (by omega) ?_
    refine t_i2 (dc kc_X12_behindSum_0 26 rfl) (Nat.le_of_ble_eq_true rfl) rfl <| s_iload_n (dc kc_X12_behindSum_0 27 rfl) rfl <| k_b (dc kc_X12_behindSum_0 28 rfl) rfl <| s_icmp_ne (tgt := 104) (dc kc_X12_behindSum_0 29 rfl) rfl (fun c57 => (s_iload_n (dc kc_X12_behindSum_1 15 rfl) rfl <| k_i (dc kc_X12_behindSum_1 16 rfl) rfl <| s_icmp_ne (tgt := 115) (dc kc_X12_behindSum_1 17 rfl) rfl (fun c106 => (?_)) (fun c106 => (s_iload_n (dc kc_X12_behindSum_1 18 rfl) rfl <| s_if_ne (tgt := 115) (dc kc_X12_behindSum_1 19 rfl) rfl (fun c110 => (?_)) (fun c110 => (k_i (dc kc_X12_behindSum_1 20 rfl) rfl <| s_ireturn (dc kc_X12_behindSum_1 21 rfl) rfl (Nat.zero_le _) (Nat.zero_le _) ?_)))))) (fun c57 => (r_aload_n (dc kc_X12_behindSum_0 30 rfl) rfl <| r_aload_n (dc kc_X12_behindSum_0 31 rfl) rfl <| k_b (dc kc_X12_behindSum_0 32 rfl) rfl <| c_v1r (dc kc_X12_behindSum_0 33 rfl) cl_X12_215 rfl (Nat.le_of_ble_eq_true rfl) (Nat.zero_le _) (Nat.zero_le _) <| t_isSign <| c_v1 (dc kc_X12_behindSum_0 34 rfl) cl_X12_187 rfl (Nat.le_of_ble_eq_true rfl) (Nat.zero_le _) (Nat.zero_le _) ?_))
    · exact cmp
    · exact cmp
    · exact hQ2 4 (Or.inr rfl)
    · refine t_mustD hL bi_01 (Or.inl hD) (fun m2 g2 h2 => ?_)
      have e17 := h2.1
      refine r_aload_n (dc kc_X12_behindSum_0 35 rfl) rfl <| s_getZ (dc kc_X12_behindSum_0 36 rfl) fl_X12_146 <| s_if_ne (tgt := 102) (dc kc_X12_behindSum_0 37 rfl) rfl (fun c74 => (k_i (dc kc_X12_behindSum_1 13 rfl) rfl <| s_ireturn (dc kc_X12_behindSum_1 14 rfl) rfl (Nat.zero_le _) (Nat.zero_le _) ?_)) (fun c74 => (?_))
      · exact hQ m2 _ (pr_Tq g2) h2 (DX.of (m := m2) h2 (by rw [g2.at (by simp [pTq])]; omega) (by rw [g2.at (by simp [pTq])]; omega) (by rw [g2.at (by simp [pTq]), g2.at (by simp [pTq])]; omega) (by rw [g2.at (by simp [pTq])]; omega))
      · exfalso; omega
  refine tx_intro (ls := [vR (some (0, 80)), vI x, vX 0, vX 0]) om_X12_behindSum rfl (Nat.le_of_ble_eq_true rfl) ?_
  refine r_aload_n (dc kc_X12_behindSum_0 0 rfl) rfl <| k_b (dc kc_X12_behindSum_0 1 rfl) rfl <| c_v1r (dc kc_X12_behindSum_0 2 rfl) cl_X12_215 rfl (Nat.le_of_ble_eq_true rfl) (Nat.zero_le _) (Nat.zero_le _) <| t_isSign <| s_if_neb (tgt := 18) (dc kc_X12_behindSum_0 3 rfl) rfl (fun c6 => (?_)) (fun c6 => (r_aload_n (dc kc_X12_behindSum_0 4 rfl) rfl <| k_b (dc kc_X12_behindSum_0 5 rfl) rfl <| c_v1r (dc kc_X12_behindSum_0 6 rfl) cl_X12_215 rfl (Nat.le_of_ble_eq_true rfl) (Nat.zero_le _) (Nat.zero_le _) <| t_isSign <| s_if_eqb (tgt := 49) (dc kc_X12_behindSum_0 7 rfl) rfl (fun c15 => (?_)) (fun c15 => (?_))))
  all_goals first | exact pm | exact rest
theorem t_behindTestD (hL : Lay G mr) {mi : MI} {C0 p : Int} (hC0 : C0 ≤ mi 0 80 20) (hD : RD t N mi p) (hX : DX t N mi p) (hN : N ≤ 400) (hQ : ∀ m' tn, Ch (pPr C0) mi m' → RB m' p → DX t N m' p → Q (vI tn) m' n mr) (hQ2 : Q (vI 4) mi n mr) : Tx (d+8) mt_X12_behindTest [vR (some (0, 80))] mi n mr Q := by
  obtain ⟨-, h0, h1, h4, hp, h5⟩ := id hX
  have e17 := hD.b
  have hpN := hD.2.2.2.2.2.2
  have hp := hp e17
  obtain ⟨P, hP⟩ := Pil.ex h1
  have hPl := hP.1
  have pm : ∀ y : Int, Run (d+8) mt_X12_behindTest Q (n, mr, 0, 0) mi 22 [vR (some (0, 80)), vI y] [] := fun y => by
    have se : ∀ l : Int, Run (d+8) mt_X12_behindTest Q (n, mr, 0, 0) mi 32 [vR (some (0, 80)), vI y] [vI l, vR (some (0, 80))] := fun l => by
      refine c_v1 (dc kc_X12_behindTest_0 16 rfl) cl_X12_269 rfl (Nat.le_of_ble_eq_true rfl) (Nat.zero_le _) (Nat.zero_le _) ?_
      refine t_settleD hL h0 h1 h4 (fun m2 g2 q0 q1 q2 q3 q4 => ?_)
      have r25 : m2 0 80 25 = mi 0 80 25 := g2.at (by simp [pStl])
      have ps : ∀ op : Int, Run (d+8) mt_X12_behindTest Q (n, mr, 0, 0) m2 47 [vR (some (0, 80)), vI y] [vI op, vR (some (0, 80))] := fun op => by
        refine c_v1 (dc kc_X12_behindTest_0 23 rfl) cl_X12_244 rfl (Nat.le_of_ble_eq_true rfl) (Nat.zero_le _) (Nat.zero_le _) ?_
        refine t_push hL (by omega) (by omega) ?_
        refine r_aload_n (dc kc_X12_behindTest_0 24 rfl) rfl <| c_v0 (dc kc_X12_behindTest_0 25 rfl) cl_X12_184 rfl (Nat.le_of_ble_eq_true rfl) (Nat.zero_le _) (Nat.zero_le _) ?_
        refine t_passD hL (Or.inl ((hD.mv g2 (fun k => by simp [pStl]) (fun k k0 k1 => by simp [pStl]; omega)).mv ch_push (fun k => by simp) (fun k k0 k1 => by simp; omega))) (fun m3 g3 h3 => ?_)
        refine k_i (dc kc_X12_behindTest_0 26 rfl) rfl <| s_ireturn (dc kc_X12_behindTest_0 27 rfl) rfl (Nat.zero_le _) (Nat.zero_le _) ?_
        refine hQ m3 _ ((pr_push (pr_Stl g2 q3 hC0)).tr (pr_Tq g3)) h3 (DX.of (m := m3) h3 ?_ ?_ ?_ ?_)
        · rw [g3.at (by simp [pTq])]; simp [up]; omega
        · rw [g3.at (by simp [pTq])]; simp [up]; omega
        · rw [g3.at (by simp [pTq]), g3.at (by simp [pTq])]; simp [up]; omega
        · rw [g3.at (by simp [pTq])]; simp [up]; omega
      refine r_aload_n (dc kc_X12_behindTest_0 17 rfl) rfl <| s_iload_n (dc kc_X12_behindTest_0 18 rfl) rfl <| s_if_eq (tgt := 45) (dc kc_X12_behindTest_0 19 rfl) rfl (fun c37 => (k_b (dc kc_X12_behindTest_0 22 rfl) rfl <| ?_)) (fun c37 => (k_b (dc kc_X12_behindTest_0 20 rfl) rfl <| s_goto (tgt := 47) (dc kc_X12_behindTest_0 21 rfl) rfl <| ?_))
      · exact ps _
      · exact ps _
    refine r_aload_n (dc kc_X12_behindTest_0 10 rfl) rfl <| s_iload_n (dc kc_X12_behindTest_0 11 rfl) rfl <| s_if_eq (tgt := 31) (dc kc_X12_behindTest_0 12 rfl) rfl (fun c24 => (k_i (dc kc_X12_behindTest_0 15 rfl) rfl <| ?_)) (fun c24 => (k_i (dc kc_X12_behindTest_0 13 rfl) rfl <| s_goto (tgt := 32) (dc kc_X12_behindTest_0 14 rfl) rfl <| ?_))
    · exact se _
    · exact se _
  have rest : ∀ y : Int, Run (d+8) mt_X12_behindTest Q (n, mr, 0, 0) mi 56 [vR (some (0, 80)), vI y] [] := fun y => by
    refine r_aload_n (dc kc_X12_behindTest_0 28 rfl) rfl <| c_v0r (dc kc_X12_behindTest_0 29 rfl) cl_X12_272 rfl (Nat.le_of_ble_eq_true rfl) (Nat.zero_le _) (Nat.zero_le _) ?_
    refine t_inner hL hP (by omega) ?_
    refine k_i (dc kc_X12_behindTest_0 30 rfl) rfl <| s_icmp_ne (tgt := 66) (dc kc_X12_behindTest_0 31 rfl) rfl (fun c61 => (r_aload_n (dc kc_X12_behindTest_0 34 rfl) rfl <| r_aload_n (dc kc_X12_behindTest_0 35 rfl) rfl <| k_b (dc kc_X12_behindTest_0 36 rfl) rfl <| c_v1r (dc kc_X12_behindTest_0 37 rfl) cl_X12_215 rfl (Nat.le_of_ble_eq_true rfl) (Nat.zero_le _) (Nat.zero_le _) <| t_isSign <| c_v1 (dc kc_X12_behindTest_0 38 rfl) cl_X12_187 rfl (Nat.le_of_ble_eq_true rfl) (Nat.zero_le _) (Nat.zero_le _) ?_)) (fun c61 => (k_i (dc kc_X12_behindTest_0 32 rfl) rfl <| s_ireturn (dc kc_X12_behindTest_0 33 rfl) rfl (Nat.zero_le _) (Nat.zero_le _) ?_))
    · refine t_mustD hL bi_01 (Or.inl hD) (fun m2 g2 h2 => ?_)
      have e17 := h2.1
      refine r_aload_n (dc kc_X12_behindTest_0 39 rfl) rfl <| s_getZ (dc kc_X12_behindTest_1 0 rfl) fl_X12_146 <| s_if_ne (tgt := 108) (dc kc_X12_behindTest_1 1 rfl) rfl (fun c80 => (k_i (dc kc_X12_behindTest_1 17 rfl) rfl <| s_ireturn (dc kc_X12_behindTest_1 18 rfl) rfl (Nat.zero_le _) (Nat.zero_le _) ?_)) (fun c80 => (?_))
      · exact hQ m2 _ (pr_Tq g2) h2 (DX.of (m := m2) h2 (by rw [g2.at (by simp [pTq])]; omega) (by rw [g2.at (by simp [pTq])]; omega) (by rw [g2.at (by simp [pTq]), g2.at (by simp [pTq])]; omega) (by rw [g2.at (by simp [pTq])]; omega))
      · exfalso; omega
    · exact hQ2
  refine tx_intro (ls := [vR (some (0, 80)), vX 0]) om_X12_behindTest rfl (Nat.le_of_ble_eq_true rfl) ?_
  refine r_aload_n (dc kc_X12_behindTest_0 0 rfl) rfl <| k_j (dc kc_X12_behindTest_0 1 rfl) kj_X12_279 rfl (a := 1476) (by decide) <| c_v1r (dc kc_X12_behindTest_0 2 rfl) cl_X12_220 rfl (Nat.le_of_ble_eq_true rfl) (Nat.zero_le _) (Nat.zero_le _) <| t_isWord <| t_i1 (dc kc_X12_behindTest_0 3 rfl) (Nat.le_of_ble_eq_true rfl) rfl <| s_iload_n (dc kc_X12_behindTest_0 4 rfl) rfl <| s_if_ne (tgt := 22) (dc kc_X12_behindTest_0 5 rfl) rfl (fun c9 => (?_)) (fun c9 => (r_aload_n (dc kc_X12_behindTest_0 6 rfl) rfl <| k_j (dc kc_X12_behindTest_0 7 rfl) kj_X12_281 rfl (a := 498) (by decide) <| c_v1r (dc kc_X12_behindTest_0 8 rfl) cl_X12_220 rfl (Nat.le_of_ble_eq_true rfl) (Nat.zero_le _) (Nat.zero_le _) <| t_isWord <| s_if_eqb (tgt := 56) (dc kc_X12_behindTest_0 9 rfl) rfl (fun c19 => (?_)) (fun c19 => (?_))))
  all_goals first | exact pm _ | exact rest _
end RXD
