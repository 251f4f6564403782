/-! the reference: a node is read -/
def OS : List Int → List Int
  | [] => []
  | op :: O => 73 :: (if op = 6 then 410 else 411) :: OS O
theorem OS_len : ∀ O : List Int, (OS O).length = 2 * O.length
  | [] => rfl
  | op :: O => by rw [OS, List.length_cons, List.length_cons, OS_len O, List.length_cons]; omega
def pPr (C0 : Int) (j : Nat) (k : Int) : Bool := (j == 87 && decide (C0 ≤ k)) || (j == 88 && decide (C0 ≤ k)) || j == 89 || j == 90 || (j == 80 && (k == 12 || k == 13 || k == 14 || k == 15 || k == 16 || k == 17 || k == 18 || k == 20 || k == 24 || k == 25))
/-- it has failed, or will, at p; there is room (z: what else is piled) -/
def DXz (t : Int → Int) (N z : Int) (m : MI) (p : Int) : Prop := Dd t N m p ∧ 0 ≤ m 0 80 20 ∧ 0 ≤ z ∧ m 0 80 20 + z ≤ 400 ∧ (m 0 80 17 = 0 → m 0 80 20 + z ≤ p) ∧ (-100 ≤ m 0 80 25 ∧ m 0 80 25 ≤ 100)
def DX (t : Int → Int) (N : Int) (m : MI) (p : Int) : Prop := Dd t N m p ∧ 0 ≤ m 0 80 20 ∧ 0 ≤ m 0 80 24 ∧ m 0 80 20 + m 0 80 24 ≤ 400 ∧ (m 0 80 17 = 0 → m 0 80 20 + m 0 80 24 ≤ p) ∧ (-100 ≤ m 0 80 25 ∧ m 0 80 25 ≤ 100)
theorem DXz.to {t : Int → Int} {N z p : Int} {m : MI} (h : DXz t N z m p) (e : m 0 80 24 = z) : DX t N m p := by
  unfold DX
  rw [e]; exact h
theorem DX.z {t : Int → Int} {N p : Int} {m : MI} (h : DX t N m p) : DXz t N (m 0 80 24) m p := h
theorem DX.z0 {t : Int → Int} {N p : Int} {m : MI} (h : DX t N m p) : DXz t N 0 m p := by
  obtain ⟨a1, a2, a3, a4, a5, a6⟩ := h
  exact ⟨a1, a2, by omega, by omega, fun z => by have := a5 z; omega, a6⟩
theorem RA.nx {t : Int → Int} {N f u : Int} {m : MI} (hP : Tpe t N) (h : RA t N m f u) (hx : tkF t N f ≠ 23) : f ≠ -1 ∧ nxF t N f ≠ -1 ∧ f < nxF t N f ∧ nxF t N f ≤ N := by
  obtain ⟨h0, h1⟩ := h.2.2.2.2.1
  have := (TkE_F hP.2 f h0 h1).2.2.2 hx
  omega
theorem pr_Op {C0 : Int} {m m' : MI} (h : Ch pOpn m m') : Ch (pPr C0) m m' := h.mono (fun j k z => by simp [pOpn] at z; simp [pPr]; omega)
theorem pr_Tq {C0 : Int} {m m' : MI} (h : Ch pTq m m') : Ch (pPr C0) m m' := h.mono (fun j k z => by simp [pTq] at z; simp [pPr]; omega)
theorem pr_emit {C0 z op a y : Int} {m m' : MI} (h : Ch (pPr C0) m m') (hz : C0 ≤ z) : Ch (pPr C0) m (up (up (up m' 0 87 z op) 0 88 z a) 0 80 20 y) := ((h.up (by simp [pPr]; omega)).up (by simp [pPr]; omega)).up (by simp [pPr])
theorem ch_emit {z op a y : Int} {m : MI} : Ch (fun j k => j == 87 || j == 88 || (j == 80 && k == 20)) m (up (up (up m 0 87 z op) 0 88 z a) 0 80 20 y) := ((Ch.rf.up (by simp)).up (by simp)).up (by simp)
section RND
variable {d n G : Nat} {mr : MR} {Q : V → MI → Nat → MR → Prop} {t : Int → Int} {N o : Int}
/-- the closing signs, where it has failed -/
theorem t_node185D (hL : Lay G mr) {C0 z : Int} {mi0 : MI} {x2 x3 x4 : V} (hz : 0 ≤ z) : ∀ (k : Nat) (m : MI) (p : Int), Ch (pPr C0) mi0 m → Dd t N m p → C0 ≤ m 0 80 20 → 0 ≤ m 0 80 20 → m 0 80 20 + z + k ≤ 400 → (m 0 80 17 = 0 → m 0 80 20 + z + k ≤ p) → (-100 ≤ m 0 80 25 ∧ m 0 80 25 ≤ 100) → k ≤ 8 → (∀ m', Ch (pPr C0) mi0 m' → DXz t N z m' p → m' 0 80 24 = m 0 80 24 → Q (vX 0) m' n mr) → Run (d+6) mt_X12_readNode Q (n, mr, 0, 0) m 185 [vR (some (0, 80)), vI (k : Int), x2, x3, x4] [] := by
  intro k
  have fin : ∀ (k : Nat) (m : MI) (p : Int), Ch (pPr C0) mi0 m → RB m p → 0 ≤ m 0 80 20 → m 0 80 20 + z + k ≤ 400 → (-100 ≤ m 0 80 25 ∧ m 0 80 25 ≤ 100) → (∀ m', Ch (pPr C0) mi0 m' → DXz t N z m' p → m' 0 80 24 = m 0 80 24 → Q (vX 0) m' n mr) → Run (d+6) mt_X12_readNode Q (n, mr, 0, 0) m 185 [vR (some (0, 80)), vI (k : Int), x2, x3, x4] [] := by
    intro k m p gm hb h0 h4 h5 hQ
    have e17 := hb.1
    refine r_aload_n (dc kc_X12_readNode_2 8 rfl) rfl <| s_getZ (dc kc_X12_readNode_2 9 rfl) fl_X12_146 <| s_if_ne (tgt := 217) (dc kc_X12_readNode_2 10 rfl) rfl (fun c189 => (s_return (dc kc_X12_readNode_2 24 rfl) rfl (Nat.zero_le _) (Nat.zero_le _) ?_)) (fun c189 => (?_))
    · exact hQ m gm ⟨Or.inr hb, h0, hz, by omega, fun z => by omega, h5⟩ rfl
    · exfalso; omega
  intro m p gm hD hC h0 h4 hp h5 h8 hQ
  rcases hD with hD | hD
  · have e17 := hD.b
    have hpN := hD.2.2.2.2.2.2
    have hp := hp e17
    by_cases hk : k = 0
    · subst hk
      refine r_aload_n (dc kc_X12_readNode_2 8 rfl) rfl <| s_getZ (dc kc_X12_readNode_2 9 rfl) fl_X12_146 <| s_if_ne (tgt := 217) (dc kc_X12_readNode_2 10 rfl) rfl (fun c189 => (s_return (dc kc_X12_readNode_2 24 rfl) rfl (Nat.zero_le _) (Nat.zero_le _) ?_)) (fun c189 => (s_iload_n (dc kc_X12_readNode_2 11 rfl) rfl <| s_if_le (tgt := 217) (dc kc_X12_readNode_2 12 rfl) rfl (fun c193 => (s_return (dc kc_X12_readNode_2 24 rfl) rfl (Nat.zero_le _) (Nat.zero_le _) ?_)) (fun c193 => (?_))))
      · exfalso; omega
      · exact hQ m gm ⟨Or.inl hD, h0, hz, by omega, fun _ => by omega, h5⟩ rfl
      · exfalso; omega
    · refine r_aload_n (dc kc_X12_readNode_2 8 rfl) rfl <| s_getZ (dc kc_X12_readNode_2 9 rfl) fl_X12_146 <| s_if_ne (tgt := 217) (dc kc_X12_readNode_2 10 rfl) rfl (fun c189 => (s_return (dc kc_X12_readNode_2 24 rfl) rfl (Nat.zero_le _) (Nat.zero_le _) ?_)) (fun c189 => (s_iload_n (dc kc_X12_readNode_2 11 rfl) rfl <| s_if_le (tgt := 217) (dc kc_X12_readNode_2 12 rfl) rfl (fun c193 => (s_return (dc kc_X12_readNode_2 24 rfl) rfl (Nat.zero_le _) (Nat.zero_le _) ?_)) (fun c193 => (b_inc1 (dc kc_X12_readNode_2 13 rfl) rfl (Nat.le_of_ble_eq_true rfl) rfl (by first | omega | (simp [up] <;> omega)) (by first | omega | (simp [up] <;> omega)) <| r_aload_n (dc kc_X12_readNode_2 14 rfl) rfl <| c_v0 (dc kc_X12_readNode_2 15 rfl) cl_X12_241 rfl (Nat.le_of_ble_eq_true rfl) (Nat.zero_le _) (Nat.zero_le _) ?_))))
      · exfalso; omega
      · exfalso; omega
      · refine t_closeD hL (Or.inl hD) h5 (fun m2 g2 h2 e25 => ?_)
        have e20 : m2 0 80 20 = m 0 80 20 := g2.at (by simp [pOpn])
        have e24 : m2 0 80 24 = m 0 80 24 := g2.at (by simp [pOpn])
        refine r_aload_n (dc kc_X12_readNode_2 16 rfl) rfl <| r_aload_n (dc kc_X12_readNode_2 17 rfl) rfl <| s_getA (dc kc_X12_readNode_2 18 rfl) fl_X12_42 (ly_80_26 hL) <| s_iload_n (dc kc_X12_readNode_2 19 rfl) rfl <| s_iaload (dc kc_X12_readNode_2 20 rfl) rfl (by first | omega | (simp [up] <;> omega)) (by first | omega | (simp [up] <;> omega)) <| k_i (dc kc_X12_readNode_2 21 rfl) rfl <| c_v2 (dc kc_X12_readNode_2 22 rfl) cl_X12_200 rfl (Nat.le_of_ble_eq_true rfl) (Nat.zero_le _) (Nat.zero_le _) ?_
        refine t_emit hL (by omega) (by omega) ?_
        rw [e20]
        refine s_goto (tgt := 185) (dc kc_X12_readNode_2 23 rfl) rfl <| ?_
        have := fin (k - 1) (up (up (up m2 0 87 (m 0 80 20) (m2 0 90 ((k : Int) + -1))) 0 88 (m 0 80 20) 0) 0 80 20 (m 0 80 20 + 1)) p (pr_emit (gm.tr (pr_Op g2)) (by omega)) (h2.mv ch_emit (fun k k0 k1 => by simp; omega)) (by rw [up_at]; omega) (by rw [up_at]; omega) (by rw [up_k (by decide), up_j (by decide), up_j (by decide)]; omega) (fun m' g' x' w' => hQ m' g' x' (by rw [w', up_k (by decide), up_j (by decide), up_j (by decide), e24]))
        rw [show ((k - 1 : Nat) : Int) = (k : Int) + -1 by omega] at this
        exact this
  · exact fin k m p gm hD h0 h4 h5 hQ
/-- all of it, where it has failed -/
theorem t_node2D (hL : Lay G mr) {C0 : Int} {mi0 : MI} {x2 x3 x4 : V} (hx2 : isL x2 = false) (hx3 : isL x3 = false) (k : Nat) (m : MI) (p : Int) {z : Int} (gm : Ch (pPr C0) mi0 m) (hD : DXz t N z m p) (hQ : ∀ m', Ch (pPr C0) mi0 m' → DXz t N z m' p → m' 0 80 24 = m 0 80 24 → Q (vX 0) m' n mr) : Run (d+6) mt_X12_readNode Q (n, mr, 0, 0) m 2 [vR (some (0, 80)), vI (k : Int), x2, x3, x4] [] := by
  obtain ⟨hDd, h0, h1, h4, hp, h5⟩ := hD
  have bad : ∀ (m1 : MI) (y2 y3 y4 : V), Ch (pPr C0) mi0 m1 → RB m1 p → 0 ≤ m1 0 80 20 → m1 0 80 24 = m 0 80 24 → m1 0 80 20 + z ≤ 400 → (-100 ≤ m1 0 80 25 ∧ m1 0 80 25 ≤ 100) → Run (d+6) mt_X12_readNode Q (n, mr, 0, 0) m1 2 [vR (some (0, 80)), vI (k : Int), y2, y3, y4] [] := by
    intro m1 y2 y3 y4 gm1 hb q0 q1 q4 q5
    have e17 := hb.1
    refine r_aload_n (dc kc_X12_readNode_0 2 rfl) rfl <| s_getZ (dc kc_X12_readNode_0 3 rfl) fl_X12_146 <| s_if_ne (tgt := 81) (dc kc_X12_readNode_0 4 rfl) rfl (fun c6 => (r_aload_n (dc kc_X12_readNode_0 38 rfl) rfl <| s_getZ (dc kc_X12_readNode_0 39 rfl) fl_X12_146 <| s_if_eq (tgt := 89) (dc kc_X12_readNode_1 0 rfl) rfl (fun c85 => (?_)) (fun c85 => (s_return (dc kc_X12_readNode_1 1 rfl) rfl (Nat.zero_le _) (Nat.zero_le _) ?_)))) (fun c6 => (?_))
    · exfalso; omega
    · exact hQ m1 gm1 ⟨Or.inr hb, q0, h1, q4, fun z => by omega, q5⟩ q1
    · exfalso; omega
  rcases hDd with hD | hD
  · have e17 := hD.b
    have go : ∀ y2 : Int, Run (d+6) mt_X12_readNode Q (n, mr, 0, 0) m 47 [vR (some (0, 80)), vI (k : Int), vI y2, x3, x4] [] := fun y2 => by
      refine r_aload_n (dc kc_X12_readNode_0 21 rfl) rfl <| c_v0 (dc kc_X12_readNode_0 22 rfl) cl_X12_184 rfl (Nat.le_of_ble_eq_true rfl) (Nat.zero_le _) (Nat.zero_le _) ?_
      refine t_passD hL (Or.inl hD) (fun m2 g2 h2 => ?_)
      have e25 : m2 0 80 25 = m 0 80 25 := g2.at (by simp [pTq])
      refine r_aload_n (dc kc_X12_readNode_0 23 rfl) rfl <| r_aload_n (dc kc_X12_readNode_0 24 rfl) rfl <| k_b (dc kc_X12_readNode_0 25 rfl) rfl <| c_v1r (dc kc_X12_readNode_0 26 rfl) cl_X12_215 rfl (Nat.le_of_ble_eq_true rfl) (Nat.zero_le _) (Nat.zero_le _) <| t_isSign <| c_v1 (dc kc_X12_readNode_0 27 rfl) cl_X12_226 rfl (Nat.le_of_ble_eq_true rfl) (Nat.zero_le _) (Nat.zero_le _) ?_
      refine t_openD hL (t := t) (N := N) bi_01 (Or.inr h2) (by rw [e25]; exact h5) (fun m3 g3 h3 e3 => ?_)
      have e17 := h3.1
      refine r_aload_n (dc kc_X12_readNode_0 28 rfl) rfl <| s_getZ (dc kc_X12_readNode_0 29 rfl) fl_X12_146 <| s_if_ne (tgt := 78) (dc kc_X12_readNode_0 30 rfl) rfl (fun c65 => (s_goto (tgt := 2) (dc kc_X12_readNode_0 37 rfl) rfl <| ?_)) (fun c65 => (?_))
      · refine bad m3 _ _ _ ((gm.tr (pr_Tq g2)).tr (pr_Op g3)) h3 ?_ ?_ ?_ (by omega)
        · rw [g3.at (by simp [pOpn]), g2.at (by simp [pTq])]; exact h0
        · rw [g3.at (by simp [pOpn]), g2.at (by simp [pTq])]
        · rw [g3.at (by simp [pOpn]), g2.at (by simp [pTq])]; exact h4
      · exfalso; omega
    have nod : Run (d+6) mt_X12_readNode Q (n, mr, 0, 0) m 81 [vR (some (0, 80)), vI (k : Int), x2, x3, x4] [] := by
      have mus : ∀ a b c : Int, (a = 0 ∨ a = 1) → Run (d+6) mt_X12_readNode Q (n, mr, 0, 0) m 129 [vR (some (0, 80)), vI (k : Int), vI b, vI c, x4] [vI a, vR (some (0, 80))] := fun a b c ha => by
        refine c_v1 (dc kc_X12_readNode_1 22 rfl) cl_X12_187 rfl (Nat.le_of_ble_eq_true rfl) (Nat.zero_le _) (Nat.zero_le _) ?_
        refine t_mustD hL ha (Or.inl hD) (fun m2 g2 h2 => ?_)
        have q20 : m2 0 80 20 = m 0 80 20 := g2.at (by simp [pTq])
        have q24 : m2 0 80 24 = m 0 80 24 := g2.at (by simp [pTq])
        have q25 : m2 0 80 25 = m 0 80 25 := g2.at (by simp [pTq])
        have end_ : ∀ (m3 : MI) (y : Int), Ch pTq m2 m3 → RB m3 p → Run (d+6) mt_X12_readNode Q (n, mr, 0, 0) m3 157 [vR (some (0, 80)), vI (k : Int), vI b, vI c, x4] [vI y] := fun m3 y g3 h3 => by
          have e17 := h3.1
          have r20 : m3 0 80 20 = m 0 80 20 := by rw [g3.at (by simp [pTq]), q20]
          have r24 : m3 0 80 24 = m 0 80 24 := by rw [g3.at (by simp [pTq]), q24]
          have r25 : m3 0 80 25 = m 0 80 25 := by rw [g3.at (by simp [pTq]), q25]
          refine t_i4 (dc kc_X12_readNode_1 34 rfl) (Nat.le_of_ble_eq_true rfl) rfl <| r_aload_n (dc kc_X12_readNode_1 35 rfl) rfl <| s_getZ (dc kc_X12_readNode_1 36 rfl) fl_X12_146 <| s_if_ne (tgt := 185) (dc kc_X12_readNode_1 37 rfl) rfl (fun c163 => (r_aload_n (dc kc_X12_readNode_2 8 rfl) rfl <| s_getZ (dc kc_X12_readNode_2 9 rfl) fl_X12_146 <| s_if_ne (tgt := 217) (dc kc_X12_readNode_2 10 rfl) rfl (fun c189 => (s_return (dc kc_X12_readNode_2 24 rfl) rfl (Nat.zero_le _) (Nat.zero_le _) ?_)) (fun c189 => (?_)))) (fun c163 => (?_))
          · exact hQ m3 ((gm.tr (pr_Tq g2)).tr (pr_Tq g3)) ⟨Or.inr h3, by omega, by omega, by omega, fun z => by omega, by omega⟩ (by omega)
          all_goals (exfalso; omega)
        refine s_iload_n (dc kc_X12_readNode_1 23 rfl) rfl <| s_if_eq (tgt := 140) (dc kc_X12_readNode_1 24 rfl) rfl (fun c133 => (r_aload_n (dc kc_X12_readNode_1 27 rfl) rfl <| s_iload_n (dc kc_X12_readNode_1 28 rfl) rfl <| s_if_eq (tgt := 151) (dc kc_X12_readNode_1 29 rfl) rfl (fun c142 => (k_j (dc kc_X12_readNode_1 32 rfl) kj_X12_235 rfl (a := 2) (by decide) <| c_v1r (dc kc_X12_readNode_1 33 rfl) cl_X12_237 rfl (Nat.le_of_ble_eq_true rfl) (Nat.zero_le _) (Nat.zero_le _) ?_)) (fun c142 => (k_j (dc kc_X12_readNode_1 30 rfl) kj_X12_107 rfl (a := 5) (by decide) <| s_goto (tgt := 154) (dc kc_X12_readNode_1 31 rfl) rfl <| c_v1r (dc kc_X12_readNode_1 33 rfl) cl_X12_237 rfl (Nat.le_of_ble_eq_true rfl) (Nat.zero_le _) (Nat.zero_le _) ?_)))) (fun c133 => (k_i (dc kc_X12_readNode_1 25 rfl) rfl <| s_goto (tgt := 157) (dc kc_X12_readNode_1 26 rfl) rfl <| ?_))
        · refine t_numberD hL (t := t) (N := N) (Or.inr h2) (fun m3 y g3 h3 => ?_)
          exact end_ m3 y g3 h3
        · refine t_numberD hL (t := t) (N := N) (Or.inr h2) (fun m3 y g3 h3 => ?_)
          exact end_ m3 y g3 h3
        · exact end_ m2 _ Ch.rf h2
      refine r_aload_n (dc kc_X12_readNode_0 38 rfl) rfl <| s_getZ (dc kc_X12_readNode_0 39 rfl) fl_X12_146 <| s_if_eq (tgt := 89) (dc kc_X12_readNode_1 0 rfl) rfl (fun c85 => (?_)) (fun c85 => (s_return (dc kc_X12_readNode_1 1 rfl) rfl (Nat.zero_le _) (Nat.zero_le _) ?_))
      · refine r_aload_n (dc kc_X12_readNode_1 2 rfl) rfl <| k_j (dc kc_X12_readNode_1 3 rfl) kj_X12_229 rfl (a := 474245) (by decide) <| c_v1r (dc kc_X12_readNode_1 4 rfl) cl_X12_220 rfl (Nat.le_of_ble_eq_true rfl) (Nat.zero_le _) (Nat.zero_le _) <| t_isWord <| t_i2 (dc kc_X12_readNode_1 5 rfl) (Nat.le_of_ble_eq_true rfl) rfl <| r_aload_n (dc kc_X12_readNode_1 6 rfl) rfl <| k_j (dc kc_X12_readNode_1 7 rfl) kj_X12_231 rfl (a := 15556945351) (by decide) <| c_v1r (dc kc_X12_readNode_1 8 rfl) cl_X12_220 rfl (Nat.le_of_ble_eq_true rfl) (Nat.zero_le _) (Nat.zero_le _) <| t_isWord <| t_i3 (dc kc_X12_readNode_1 9 rfl) (Nat.le_of_ble_eq_true rfl) rfl <| r_aload_n (dc kc_X12_readNode_1 10 rfl) rfl <| s_iload_n (dc kc_X12_readNode_1 11 rfl) rfl <| s_if_ne (tgt := 124) (dc kc_X12_readNode_1 12 rfl) rfl (fun c107 => (k_i (dc kc_X12_readNode_1 19 rfl) rfl <| s_goto (tgt := 129) (dc kc_X12_readNode_1 20 rfl) rfl <| ?_)) (fun c107 => (s_iload_n (dc kc_X12_readNode_1 13 rfl) rfl <| s_if_ne (tgt := 124) (dc kc_X12_readNode_1 14 rfl) rfl (fun c111 => (k_i (dc kc_X12_readNode_1 19 rfl) rfl <| s_goto (tgt := 129) (dc kc_X12_readNode_1 20 rfl) rfl <| ?_)) (fun c111 => (r_aload_n (dc kc_X12_readNode_1 15 rfl) rfl <| k_j (dc kc_X12_readNode_1 16 rfl) kj_X12_233 rfl (a := 267300) (by decide) <| c_v1r (dc kc_X12_readNode_1 17 rfl) cl_X12_220 rfl (Nat.le_of_ble_eq_true rfl) (Nat.zero_le _) (Nat.zero_le _) <| t_isWord <| s_if_eqb (tgt := 128) (dc kc_X12_readNode_1 18 rfl) rfl (fun c121 => (k_i (dc kc_X12_readNode_1 21 rfl) rfl <| ?_)) (fun c121 => (k_i (dc kc_X12_readNode_1 19 rfl) rfl <| s_goto (tgt := 129) (dc kc_X12_readNode_1 20 rfl) rfl <| ?_))))))
        all_goals first | exact mus 0 _ _ (Or.inl rfl) | exact mus 1 _ _ (Or.inr rfl)
      · exfalso; omega
    refine r_aload_n (dc kc_X12_readNode_0 2 rfl) rfl <| s_getZ (dc kc_X12_readNode_0 3 rfl) fl_X12_146 <| s_if_ne (tgt := 81) (dc kc_X12_readNode_0 4 rfl) rfl (fun c6 => (?_)) (fun c6 => (r_aload_n (dc kc_X12_readNode_0 5 rfl) rfl <| k_j (dc kc_X12_readNode_0 6 rfl) kj_X12_218 rfl (a := 464660) (by decide) <| c_v1r (dc kc_X12_readNode_0 7 rfl) cl_X12_220 rfl (Nat.le_of_ble_eq_true rfl) (Nat.zero_le _) (Nat.zero_le _) <| t_isWord <| s_if_neb (tgt := 29) (dc kc_X12_readNode_0 8 rfl) rfl (fun c16 => (r_aload_n (dc kc_X12_readNode_0 13 rfl) rfl <| k_j (dc kc_X12_readNode_0 14 rfl) kj_X12_218 rfl (a := 464660) (by decide) <| c_v1r (dc kc_X12_readNode_0 15 rfl) cl_X12_220 rfl (Nat.le_of_ble_eq_true rfl) (Nat.zero_le _) (Nat.zero_le _) <| t_isWord <| s_if_eqb (tgt := 44) (dc kc_X12_readNode_0 16 rfl) rfl (fun c36 => (k_b (dc kc_X12_readNode_0 19 rfl) rfl <| t_i2 (dc kc_X12_readNode_0 20 rfl) (Nat.le_of_ble_eq_true rfl) rfl <| ?_)) (fun c36 => (k_b (dc kc_X12_readNode_0 17 rfl) rfl <| s_goto (tgt := 46) (dc kc_X12_readNode_0 18 rfl) rfl <| t_i2 (dc kc_X12_readNode_0 20 rfl) (Nat.le_of_ble_eq_true rfl) rfl <| ?_)))) (fun c16 => (r_aload_n (dc kc_X12_readNode_0 9 rfl) rfl <| k_j (dc kc_X12_readNode_0 10 rfl) kj_X12_224 rfl (a := 66667) (by decide) <| c_v1r (dc kc_X12_readNode_0 11 rfl) cl_X12_220 rfl (Nat.le_of_ble_eq_true rfl) (Nat.zero_le _) (Nat.zero_le _) <| t_isWord <| s_if_eqb (tgt := 81) (dc kc_X12_readNode_0 12 rfl) rfl (fun c26 => (?_)) (fun c26 => (r_aload_n (dc kc_X12_readNode_0 13 rfl) rfl <| k_j (dc kc_X12_readNode_0 14 rfl) kj_X12_218 rfl (a := 464660) (by decide) <| c_v1r (dc kc_X12_readNode_0 15 rfl) cl_X12_220 rfl (Nat.le_of_ble_eq_true rfl) (Nat.zero_le _) (Nat.zero_le _) <| t_isWord <| s_if_eqb (tgt := 44) (dc kc_X12_readNode_0 16 rfl) rfl (fun c36 => (k_b (dc kc_X12_readNode_0 19 rfl) rfl <| t_i2 (dc kc_X12_readNode_0 20 rfl) (Nat.le_of_ble_eq_true rfl) rfl <| ?_)) (fun c36 => (k_b (dc kc_X12_readNode_0 17 rfl) rfl <| s_goto (tgt := 46) (dc kc_X12_readNode_0 18 rfl) rfl <| t_i2 (dc kc_X12_readNode_0 20 rfl) (Nat.le_of_ble_eq_true rfl) rfl <| ?_))))))))
    all_goals first | (exfalso; omega) | exact nod | exact go _
  · exact bad m x2 x3 x4 gm hD h0 rfl h4 h5
/-- the closing signs -/
theorem t_node185A (hL : Lay G mr) (hP : Tpe t N) {C0 : Int} {mi0 : MI} {x2 x3 x4 : V} {z24 u0 : Int} {r : List Int} {tg e : Int} {pp v : List CT} {s0 : MS} {K0 c0 : List CT} {w : Int} (hw0 : 0 ≤ w) (h0 : 0 ≤ C0) (hr : r.length ≤ 200)
    {z : Int} (hz : 0 ≤ z)
    (hQD : ∀ m' p, Ch (pPr C0) mi0 m' → DXz t N z m' p → m' 0 80 24 = z24 → Dn (tkF t N) (nuF t N) (nxF t N) o 400 s0 p → Q (vX 0) m' n mr) : ∀ (O : List Int) (m : MI) (f u b : Int) (nd : List CT) (a : Nat), Ch (pPr C0) mi0 m → RA t N m f u → m 0 80 25 = b → 0 ≤ b → b ≤ 8 → (O.length : Int) ≤ b → m 0 80 24 = z24 → CdR m C0 (K0 ++ nd) → m 0 80 20 + z + O.length + w ≤ f → Arr (m 0 90) O.reverse → (∀ x ∈ O, x = 6 ∨ x = 7) → u0 < u → (a : Int) ≤ 5 * (u - u0) → u0 ≥ 0 → Rh (tkF t N) (nuF t N) (nxF t N) o a s0 (f, u, b, -1, OS O ++ r, tg, e, pp, v, c0 ++ nd) →
    (∀ m' f' u' nd' (a' : Nat), Ch (pPr C0) mi0 m' → m' 0 80 24 = z24 → m' 0 89 = m 0 89 → RA t N m' f' u' → m' 0 80 25 = b - O.length → CdR m' C0 (K0 ++ nd') → m' 0 80 20 + z + w ≤ f' → u0 < u' → (a' : Int) ≤ 5 * (u' - u0) → Rh (tkF t N) (nuF t N) (nxF t N) o a' s0 (f', u', b - O.length, -1, r, tg, e, pp, v, c0 ++ nd') → Q (vX 0) m' n mr) → Run (d+6) mt_X12_readNode Q (n, mr, 0, 0) m 185 [vR (some (0, 80)), vI (O.length : Int), x2, x3, x4] [] := by
  intro O
  induction O with
  | nil =>
    intro m f u b nd a gm hA hb hb0 hb8 hO h24 hC hw hov hop hu ha hu0 hR hQ
    have e17 := hA.2.2.1
    rw [List.length_nil] at hw hQ ⊢
    refine r_aload_n (dc kc_X12_readNode_2 8 rfl) rfl <| s_getZ (dc kc_X12_readNode_2 9 rfl) fl_X12_146 <| s_if_ne (tgt := 217) (dc kc_X12_readNode_2 10 rfl) rfl (fun c189 => (s_return (dc kc_X12_readNode_2 24 rfl) rfl (Nat.zero_le _) (Nat.zero_le _) ?_)) (fun c189 => (s_iload_n (dc kc_X12_readNode_2 11 rfl) rfl <| s_if_le (tgt := 217) (dc kc_X12_readNode_2 12 rfl) rfl (fun c193 => (s_return (dc kc_X12_readNode_2 24 rfl) rfl (Nat.zero_le _) (Nat.zero_le _) ?_)) (fun c193 => (?_))))
    · exfalso; omega
    · refine hQ m f u nd a gm h24 rfl hA (by simp; exact hb) hC (by omega) hu ha ?_
      rw [show b - ((0 : Nat) : Int) = b by omega]
      exact hR
    · exfalso; omega
  | cons op O ih =>
    intro m f u b nd a gm hA hb hb0 hb8 hO h24 hC hw hov hop hu ha hu0 hR hQ
    have e17 := hA.2.2.1
    have hf := hA.2.2.2.2.1
    have hu60 := hA.2.2.2.2.2.1
    have e20 := hC.1
    rw [List.length_cons] at hw hO hQ ⊢
    rw [List.reverse_cons] at hov
    have etop := hov.top
    rw [List.length_reverse] at etop
    have hop1 := hop op List.mem_cons_self
    have hop2 : ∀ x ∈ O, x = 6 ∨ x = 7 := fun x hx => hop x (List.mem_cons_of_mem _ hx)
    have hsl : ((if op = 6 then (410 : Int) else 411) :: (OS O ++ r)).length < 250 := by
      rw [List.length_cons, List.length_append, OS_len]; omega
    have htok : tokOf op 0 = ((if op = 6 then (410 : Int) else 411) - 400, 0) := by
      rcases hop1 with z | z <;> subst z <;> rfl
    have hey : 400 ≤ (if op = 6 then (410 : Int) else 411) ∧ (if op = 6 then (410 : Int) else 411) < 700 := by split <;> omega
    have hR : Rh (tkF t N) (nuF t N) (nxF t N) o a s0 (f, u, b, -1, 73 :: (if op = 6 then 410 else 411) :: (OS O ++ r), tg, e, pp, v, c0 ++ nd) := hR
    have hcnt : ((O.length + 1 : Nat) : Int) + -1 = (O.length : Int) := by omega
    refine r_aload_n (dc kc_X12_readNode_2 8 rfl) rfl <| s_getZ (dc kc_X12_readNode_2 9 rfl) fl_X12_146 <| s_if_ne (tgt := 217) (dc kc_X12_readNode_2 10 rfl) rfl (fun c189 => (s_return (dc kc_X12_readNode_2 24 rfl) rfl (Nat.zero_le _) (Nat.zero_le _) ?_)) (fun c189 => (s_iload_n (dc kc_X12_readNode_2 11 rfl) rfl <| s_if_le (tgt := 217) (dc kc_X12_readNode_2 12 rfl) rfl (fun c193 => (s_return (dc kc_X12_readNode_2 24 rfl) rfl (Nat.zero_le _) (Nat.zero_le _) ?_)) (fun c193 => (b_inc1 (dc kc_X12_readNode_2 13 rfl) rfl (Nat.le_of_ble_eq_true rfl) rfl (by first | omega | (simp [up] <;> omega)) (by first | omega | (simp [up] <;> omega)) <| r_aload_n (dc kc_X12_readNode_2 14 rfl) rfl <| c_v0 (dc kc_X12_readNode_2 15 rfl) cl_X12_241 rfl (Nat.le_of_ble_eq_true rfl) (Nat.zero_le _) (Nat.zero_le _) ?_))))
    · exfalso; omega
    · exfalso; omega
    · refine t_closeA hL hP hA hb (by omega) (by omega) (fun h73 m2 g2 h2 e25 => ?_) (fun h73 m2 g2 h2 e25 => ?_)
      · have q20 : m2 0 80 20 = m 0 80 20 := g2.at (by simp [pOpn])
        have q24 : m2 0 80 24 = m 0 80 24 := g2.at (by simp [pOpn])
        have q90 : m2 0 90 = m 0 90 := g2.row (fun k => by simp [pOpn])
        have q89 : m2 0 89 = m 0 89 := g2.row (fun k => by simp [pOpn])
        obtain ⟨n1, n2, n3, n4⟩ := hA.nx hP (by omega)
        have hN := hP.1.2
        have hd := due_t (tk := tkF t N) (nu := nuF t N) (nx := nxF t N) (o := o) (f := f) (u := u) (b' := b) (y := 73) (tg := tg) (e := e) (r := (if op = 6 then 410 else 411) :: (OS O ++ r)) (pp := pp) (v := v) (c := c0 ++ nd) (by decide) hsl n2 h73 (by omega)
        have hC2 : CdR m2 C0 (K0 ++ nd) := hC.mv q20 (g2.row (fun k => by simp [pOpn])) (g2.row (fun k => by simp [pOpn]))
        refine r_aload_n (dc kc_X12_readNode_2 16 rfl) rfl <| r_aload_n (dc kc_X12_readNode_2 17 rfl) rfl <| s_getA (dc kc_X12_readNode_2 18 rfl) fl_X12_42 (ly_80_26 hL) <| s_iload_n (dc kc_X12_readNode_2 19 rfl) rfl <| s_iaload (dc kc_X12_readNode_2 20 rfl) rfl (by first | omega | (simp [up] <;> omega)) (by first | omega | (simp [up] <;> omega)) <| k_i (dc kc_X12_readNode_2 21 rfl) rfl <| c_v2 (dc kc_X12_readNode_2 22 rfl) cl_X12_200 rfl (Nat.le_of_ble_eq_true rfl) (Nat.zero_le _) (Nat.zero_le _) ?_
        rw [q90, hcnt, etop]
        refine t_emit hL (by omega) (by omega) ?_
        rw [q20]
        refine s_goto (tgt := 185) (dc kc_X12_readNode_2 23 rfl) rfl <| ?_
        have hC3 := hC2.emit (op := op) (a := 0) q20.symm
        rw [htok, List.append_assoc] at hC3
        have g3 : Ch (pPr C0) mi0 (up (up (up m2 0 87 (m 0 80 20) op) 0 88 (m 0 80 20) 0) 0 80 20 (m 0 80 20 + 1)) := pr_emit (gm.tr (pr_Op g2)) (by omega)
        by_cases hdm : 59 ≤ u ∧ tkF t N (nxF t N f) ≠ 91 ∧ tkF t N (nxF t N f) ≠ 23
        · unfold Tko at h2
          rw [if_pos hdm] at h2
          have hdn := (hR.dn (hd.1 hdm)).mono (b := 400) (by omega)
          exact t_node185D hL hz O.length _ (nxF t N f) g3 (Or.inl (h2.mv ch_emit (fun k => by simp) (fun k k0 k1 => by simp; omega))) (by rw [up_at]; omega) (by rw [up_at]; omega) (by simp [up]; omega) (fun _ => by simp [up]; omega) (by simp [up]; omega) (by omega) (fun m' gm' hdx e' => hQD m' _ gm' hdx (by rw [e']; simp [up]; omega) hdn)
        · unfold Tko at h2
          rw [if_neg hdm] at h2
          have hrh := ((hR.tr (hd.2 hdm)).tr (emt hey.1 hey.2 (by rw [List.length_append, OS_len]; omega)))
          rw [List.append_assoc] at hrh
          refine ih _ (nxF t N f) (u + 1) (b - 1) (nd ++ [((if op = 6 then (410 : Int) else 411) - 400, 0)]) (a + 1 + 1) g3 (h2.mv ch_emit (fun k => by simp) (fun k k0 k1 _ => by simp; omega)) (by simp [up]; exact e25) (by omega) (by omega) (by omega) (by simp [up]; omega) hC3 (by simp [up]; omega) ?_ hop2 (by omega) (by omega) hu0 hrh (fun m' f' u' nd' a' gm' w24 w89 wA w25 wC ww wu wa wR => ?_)
          · rw [up_j (by decide), up_j (by decide), up_j (by decide), q90]; exact hov.pre
          · refine hQ m' f' u' nd' a' gm' w24 ?_ wA (by omega) wC ww wu wa ?_
            · rw [w89, up_j (by decide), up_j (by decide), up_j (by decide), q89]
            · rw [show b - ((O.length + 1 : Nat) : Int) = b - 1 - (O.length : Int) by omega]
              exact wR
      · have q20 : m2 0 80 20 = m 0 80 20 := g2.at (by simp [pOpn])
        have q24 : m2 0 80 24 = m 0 80 24 := g2.at (by simp [pOpn])
        have hd := due_f (tk := tkF t N) (nu := nuF t N) (nx := nxF t N) (o := o) (f := f) (u := u) (b' := b) (y := 73) (tg := tg) (e := e) (r := (if op = 6 then 410 else 411) :: (OS O ++ r)) (pp := pp) (v := v) (c := c0 ++ nd) (by decide) hsl (by omega) (Or.inl h73)
        have hdn := (hR.dn hd).mono (b := 400) (by omega)
        have hN := hP.1.2
        refine r_aload_n (dc kc_X12_readNode_2 16 rfl) rfl <| r_aload_n (dc kc_X12_readNode_2 17 rfl) rfl <| s_getA (dc kc_X12_readNode_2 18 rfl) fl_X12_42 (ly_80_26 hL) <| s_iload_n (dc kc_X12_readNode_2 19 rfl) rfl <| s_iaload (dc kc_X12_readNode_2 20 rfl) rfl (by first | omega | (simp [up] <;> omega)) (by first | omega | (simp [up] <;> omega)) <| k_i (dc kc_X12_readNode_2 21 rfl) rfl <| c_v2 (dc kc_X12_readNode_2 22 rfl) cl_X12_200 rfl (Nat.le_of_ble_eq_true rfl) (Nat.zero_le _) (Nat.zero_le _) ?_
        refine t_emit hL (by omega) (by omega) ?_
        rw [q20]
        refine s_goto (tgt := 185) (dc kc_X12_readNode_2 23 rfl) rfl <| ?_
        rw [hcnt]
        exact t_node185D hL hz O.length _ f (pr_emit (gm.tr (pr_Op g2)) (by omega)) (Or.inr (h2.mv ch_emit (fun k k0 k1 => by simp; omega))) (by rw [up_at]; omega) (by rw [up_at]; omega) (by simp [up]; omega) (fun z => by simp [up] at z; have := h2.1; omega) (by simp [up]; omega) (by omega) (fun m' gm' hdx e' => hQD m' _ gm' hdx (by rw [e']; simp [up]; omega) hdn)
theorem t_readNodeA (hL : Lay G mr) (hP : Tpe t N) {mi : MI} {C0 f u b tg e w : Int} {K : List CT} {r : List Int} {pp v c : List CT} (hA : RA t N mi f u) (hb : mi 0 80 25 = b) (hb0 : 0 ≤ b) (hb8 : b ≤ 8) (hC : CdR mi C0 K) (h0 : 0 ≤ C0) {z : Int} (hz : 0 ≤ z) (hw0 : 0 ≤ w) (hw : mi 0 80 20 + z + w ≤ f) (hr : r.length ≤ 200)
    (hQA : ∀ m' f' u' nd (a : Nat), Ch (pPr C0) mi m' → m' 0 80 24 = mi 0 80 24 → m' 0 89 = mi 0 89 → RA t N m' f' u' → m' 0 80 25 = b → CdR m' C0 (K ++ nd) → m' 0 80 20 + z + w ≤ f' → u < u' → (a : Int) ≤ 5 * (u' - u) → Rh (tkF t N) (nuF t N) (nxF t N) o a (f, u, b, -1, 723 :: r, tg, e, pp, v, c) (f', u', b, -1, r, tg, e, pp, v, c ++ nd) → Q (vX 0) m' n mr)
    (hQD : ∀ m' p, Ch (pPr C0) mi m' → DXz t N z m' p → m' 0 80 24 = mi 0 80 24 → Dn (tkF t N) (nuF t N) (nxF t N) o 400 (f, u, b, -1, 723 :: r, tg, e, pp, v, c) p → Q (vX 0) m' n mr) : Tx (d+6) mt_X12_readNode [vR (some (0, 80))] mi n mr Q := by
  generalize hs0 : ((f, u, b, -1, 723 :: r, tg, e, pp, v, c) : MS) = s0 at *
  have hN := hP.1.2
  have hu00 := hA.2.2.2.2.2.1.1
  refine tx_intro (ls := [vR (some (0, 80)), vX 0, vX 0, vX 0, vX 0]) om_X12_readNode rfl (Nat.le_of_ble_eq_true rfl) ?_
  -- behind the number
  have afB : ∀ (m : MI) (p y bb cc : Int) (k : Nat) (x4 : V), Ch (pPr C0) mi m → RB m p → m 0 80 24 = mi 0 80 24 → 0 ≤ m 0 80 20 → m 0 80 20 + z ≤ 400 → (-100 ≤ m 0 80 25 ∧ m 0 80 25 ≤ 100) → Dn (tkF t N) (nuF t N) (nxF t N) o 400 s0 p → Run (d+6) mt_X12_readNode Q (n, mr, 0, 0) m 157 [vR (some (0, 80)), vI (k : Int), vI bb, vI cc, x4] [vI y] := by
    intro m p y bb cc k x4 gm hb h24 h20 h4 h25 hdn
    have e17 := hb.1
    refine t_i4 (dc kc_X12_readNode_1 34 rfl) (Nat.le_of_ble_eq_true rfl) rfl <| r_aload_n (dc kc_X12_readNode_1 35 rfl) rfl <| s_getZ (dc kc_X12_readNode_1 36 rfl) fl_X12_146 <| s_if_ne (tgt := 185) (dc kc_X12_readNode_1 37 rfl) rfl (fun c163 => (r_aload_n (dc kc_X12_readNode_2 8 rfl) rfl <| s_getZ (dc kc_X12_readNode_2 9 rfl) fl_X12_146 <| s_if_ne (tgt := 217) (dc kc_X12_readNode_2 10 rfl) rfl (fun c189 => (s_return (dc kc_X12_readNode_2 24 rfl) rfl (Nat.zero_le _) (Nat.zero_le _) ?_)) (fun c189 => (?_)))) (fun c163 => (?_))
    · exact hQD m p gm ⟨Or.inr hb, h20, by omega, h4, fun z => by omega, h25⟩ h24 hdn
    all_goals (exfalso; omega)
  have afD : ∀ (m : MI) (p y bb cc : Int) (k : Nat) (x4 : V), Ch (pPr C0) mi m → RD t N m p → m 0 80 24 = mi 0 80 24 → C0 ≤ m 0 80 20 → m 0 80 20 + z + k + 1 ≤ p → (-100 ≤ m 0 80 25 ∧ m 0 80 25 ≤ 100) → k ≤ 8 → Dn (tkF t N) (nuF t N) (nxF t N) o 400 s0 p → Run (d+6) mt_X12_readNode Q (n, mr, 0, 0) m 157 [vR (some (0, 80)), vI (k : Int), vI bb, vI cc, x4] [vI y] := by
    intro m p y bb cc k x4 gm hD h24 h20 h4 h25 hk hdn
    have e17 := hD.b
    have hpN := hD.2.2.2.2.2.2
    have em : ∀ (op : Int) (z4 : V), Run (d+6) mt_X12_readNode Q (n, mr, 0, 0) m 180 [vR (some (0, 80)), vI (k : Int), vI bb, vI cc, vI y] [vI op, vR (some (0, 80))] := fun op z4 => by
      refine s_iload (dc kc_X12_readNode_2 6 rfl) rfl <| c_v2 (dc kc_X12_readNode_2 7 rfl) cl_X12_200 rfl (Nat.le_of_ble_eq_true rfl) (Nat.zero_le _) (Nat.zero_le _) ?_
      refine t_emit hL (by omega) (by omega) ?_
      exact t_node185D hL hz k _ p (pr_emit gm (by omega)) (Or.inl (hD.mv ch_emit (fun k => by simp) (fun k k0 k1 => by simp; omega))) (by rw [up_at]; omega) (by rw [up_at]; omega) (by simp [up]; omega) (fun _ => by simp [up]; omega) (by simp [up]; omega) (by omega) (fun m' gm' hdx e' => hQD m' _ gm' hdx (by rw [e']; simp [up]; omega) hdn)
    refine t_i4 (dc kc_X12_readNode_1 34 rfl) (Nat.le_of_ble_eq_true rfl) rfl <| r_aload_n (dc kc_X12_readNode_1 35 rfl) rfl <| s_getZ (dc kc_X12_readNode_1 36 rfl) fl_X12_146 <| s_if_ne (tgt := 185) (dc kc_X12_readNode_1 37 rfl) rfl (fun c163 => (?_)) (fun c163 => (r_aload_n (dc kc_X12_readNode_1 38 rfl) rfl <| s_iload_n (dc kc_X12_readNode_1 39 rfl) rfl <| s_if_ne (tgt := 175) (dc kc_X12_readNode_2 0 rfl) rfl (fun c168 => (k_i (dc kc_X12_readNode_2 3 rfl) rfl <| s_goto (tgt := 180) (dc kc_X12_readNode_2 4 rfl) rfl <| ?_)) (fun c168 => (s_iload_n (dc kc_X12_readNode_2 1 rfl) rfl <| s_if_eq (tgt := 179) (dc kc_X12_readNode_2 2 rfl) rfl (fun c172 => (k_i (dc kc_X12_readNode_2 5 rfl) rfl <| ?_)) (fun c172 => (k_i (dc kc_X12_readNode_2 3 rfl) rfl <| s_goto (tgt := 180) (dc kc_X12_readNode_2 4 rfl) rfl <| ?_))))))
    all_goals first | (exfalso; omega) | exact em _ x4
  have afA : ∀ (m : MI) (f2 u2 y bb cc op : Int) (O : List Int) (a : Nat) (x4 : V) (q : CT), Ch (pPr C0) mi m → RA t N m f2 u2 → m 0 80 25 = b + O.length → b + O.length ≤ 8 → m 0 80 24 = mi 0 80 24 → m 0 89 = mi 0 89 → CdR m C0 K → m 0 80 20 + z + O.length + 1 + w ≤ f2 → Arr (m 0 90) O.reverse → (∀ x ∈ O, x = 6 ∨ x = 7) → u < u2 → (a : Int) ≤ 5 * (u2 - u) → ((bb = 1 ∨ cc = 1) ∧ op = 4 ∨ (bb = 0 ∧ cc = 0) ∧ op = 5) → tokOf op y = q → Rh (tkF t N) (nuF t N) (nxF t N) o a s0 (f2, u2, b + O.length, -1, OS O ++ r, tg, e, pp, v, c ++ [q]) → Run (d+6) mt_X12_readNode Q (n, mr, 0, 0) m 157 [vR (some (0, 80)), vI (O.length : Int), vI bb, vI cc, x4] [vI y] := by
    intro m f2 u2 y bb cc op O a x4 q gm hA2 h25 h8 h24 h89 hC2 hw2 hov hop hu2 ha hopc htok hR
    have e17 := hA2.2.2.1
    have e20 := hC2.1
    have hf2 := hA2.2.2.2.2.1
    have em : ∀ op' : Int, op' = op → Run (d+6) mt_X12_readNode Q (n, mr, 0, 0) m 180 [vR (some (0, 80)), vI (O.length : Int), vI bb, vI cc, vI y] [vI op', vR (some (0, 80))] := fun op' hop' => by
      subst hop'
      refine s_iload (dc kc_X12_readNode_2 6 rfl) rfl <| c_v2 (dc kc_X12_readNode_2 7 rfl) cl_X12_200 rfl (Nat.le_of_ble_eq_true rfl) (Nat.zero_le _) (Nat.zero_le _) ?_
      refine t_emit hL (by omega) (by omega) ?_
      have hC3 := hC2.emit (op := op') (a := y) rfl
      rw [htok] at hC3
      refine t_node185A hL hP (z24 := mi 0 80 24) (u0 := u) (K0 := K) (c0 := c) (w := w) hw0 h0 hr hz hQD O _ f2 u2 (b + O.length) [q] a (pr_emit gm (by omega)) (hA2.mv ch_emit (fun k => by simp) (fun k k0 k1 _ => by simp; omega)) (by simp [up]; exact h25) (by omega) h8 (by omega) (by simp [up]; exact h24) hC3 (by simp [up]; omega) (by rw [up_j (by decide), up_j (by decide), up_j (by decide)]; exact hov) hop hu2 ha hu00 hR (fun m' f' u' nd' a' gm' w24 w89 wA w25 wC ww wu wa wR => ?_)
      rw [show b + (O.length : Int) - O.length = b by omega] at w25 wR
      exact hQA m' f' u' nd' a' gm' w24 (by rw [w89, up_j (by decide), up_j (by decide), up_j (by decide)]; exact h89) wA w25 wC (by omega) wu wa wR
    refine t_i4 (dc kc_X12_readNode_1 34 rfl) (Nat.le_of_ble_eq_true rfl) rfl <| r_aload_n (dc kc_X12_readNode_1 35 rfl) rfl <| s_getZ (dc kc_X12_readNode_1 36 rfl) fl_X12_146 <| s_if_ne (tgt := 185) (dc kc_X12_readNode_1 37 rfl) rfl (fun c163 => (?_)) (fun c163 => (r_aload_n (dc kc_X12_readNode_1 38 rfl) rfl <| s_iload_n (dc kc_X12_readNode_1 39 rfl) rfl <| s_if_ne (tgt := 175) (dc kc_X12_readNode_2 0 rfl) rfl (fun c168 => (k_i (dc kc_X12_readNode_2 3 rfl) rfl <| s_goto (tgt := 180) (dc kc_X12_readNode_2 4 rfl) rfl <| ?_)) (fun c168 => (s_iload_n (dc kc_X12_readNode_2 1 rfl) rfl <| s_if_eq (tgt := 179) (dc kc_X12_readNode_2 2 rfl) rfl (fun c172 => (k_i (dc kc_X12_readNode_2 5 rfl) rfl <| ?_)) (fun c172 => (k_i (dc kc_X12_readNode_2 3 rfl) rfl <| s_goto (tgt := 180) (dc kc_X12_readNode_2 4 rfl) rfl <| ?_))))))
    all_goals first | (exfalso; omega) | exact em _ (by omega)
  -- the word of the node itself
  have base : ∀ (m : MI) (f1 u1 : Int) (O : List Int) (a : Nat) (x2 x3 x4 : V), isL x2 = false → isL x3 = false → tkF t N f1 ≠ 10 → tkF t N f1 ≠ 11 → Ch (pPr C0) mi m → RA t N m f1 u1 → m 0 80 25 = b + O.length → b + O.length ≤ 8 → m 0 80 24 = mi 0 80 24 → m 0 89 = mi 0 89 → CdR m C0 K → m 0 80 20 + z + O.length + w ≤ f1 → Arr (m 0 90) O.reverse → (∀ x ∈ O, x = 6 ∨ x = 7) → u ≤ u1 → (a : Int) ≤ 5 * (u1 - u) → Rh (tkF t N) (nuF t N) (nxF t N) o a s0 (f1, u1, b + O.length, -1, 723 :: (OS O ++ r), tg, e, pp, v, c) → Run (d+6) mt_X12_readNode Q (n, mr, 0, 0) m 81 [vR (some (0, 80)), vI (O.length : Int), x2, x3, x4] [] := by
    intro m f1 u1 O a x2 x3 x4 hx2 hx3 h10 h11 gm hA1 hb1 hb18 h24 h89 hC1 hw1 hov hop hu1 ha hR
    have e17 := hA1.2.2.1
    have e20 := hC1.1
    have hf1 := hA1.2.2.2.2.1
    have hu60 := hA1.2.2.2.2.2.1
    have w13 := hA1.2.1.word hP hf1.1 13 (by decide) (H := 474245) (by decide +kernel)
    have w14 := hA1.2.1.word hP hf1.1 14 (by decide) (H := 15556945351) (by decide +kernel)
    have w8 := hA1.2.1.word hP hf1.1 8 (by decide) (H := 267300) (by decide +kernel)
    have hsl : (OS O ++ r).length < 250 := by rw [List.length_append, OS_len]; omega
    -- a word, then a number
    have wnum : ∀ (ww : Nat) (bb mo op : Int) (x4 : V), (ww = 13 ∧ bb = 1 ∧ mo = 5 ∧ op = 4) ∨ (ww = 8 ∧ bb = 0 ∧ mo = 2 ∧ op = 5) → tkF t N f1 = ww → Run (d+6) mt_X12_readNode Q (n, mr, 0, 0) m 129 [vR (some (0, 80)), vI (O.length : Int), vI bb, vI 0, x4] [vI 1, vR (some (0, 80))] := by
      intro ww bb mo op x4 hww hxw
      have hprd : prd o (tkF t N f1) 723 = some (1, [300 + (ww : Int)]) := by
        rw [hxw]
        rcases hww with z | z <;> (rw [z.1]; rfl)
      obtain ⟨n1, n2, n3, n4⟩ := hA1.nx hP (by omega)
      have hd := rul_t (tk := tkF t N) (nu := nuF t N) (nx := nxF t N) (o := o) (f := f1) (u := u1) (b' := b + O.length) (y := 723) (tg := tg) (e := e) (r := OS O ++ r) (pp := pp) (v := v) (c := c) (by decide) hsl n2 hprd
      have hms : mst (300 + (ww : Int) - 300) = mo := by
        rw [show 300 + (ww : Int) - 300 = ww by omega]
        rcases hww with z | z <;> (rw [z.1, z.2.2.1]; rfl)
      refine c_v1 (dc kc_X12_readNode_1 22 rfl) cl_X12_187 rfl (Nat.le_of_ble_eq_true rfl) (Nat.zero_le _) (Nat.zero_le _) ?_
      refine t_mustA hL hP hA1 (by omega) (by omega) (fun m2 g2 h2 => ?_)
      have q20 : m2 0 80 20 = m 0 80 20 := g2.at (by simp [pTq])
      have q24 : m2 0 80 24 = m 0 80 24 := g2.at (by simp [pTq])
      have q25 : m2 0 80 25 = m 0 80 25 := g2.at (by simp [pTq])
      have q90 : m2 0 90 = m 0 90 := g2.row (fun k => by simp [pTq])
      have q89 : m2 0 89 = m 0 89 := g2.row (fun k => by simp [pTq])
      have gm2 := gm.tr (pr_Tq (C0 := C0) g2)
      have go : ∀ mm : Int, mm = mo → Run (d+6) mt_X12_readNode Q (n, mr, 0, 0) m2 154 [vR (some (0, 80)), vI (O.length : Int), vI bb, vI 0, x4] [vL mm, vR (some (0, 80))] := fun mm hmm => by
        subst hmm
        refine c_v1r (dc kc_X12_readNode_1 33 rfl) cl_X12_237 rfl (Nat.le_of_ble_eq_true rfl) (Nat.zero_le _) (Nat.zero_le _) ?_
        by_cases hdm : 59 ≤ u1 ∧ tkF t N (nxF t N f1) ≠ 91 ∧ tkF t N (nxF t N f1) ≠ 23
        · unfold Tko at h2
          rw [if_pos hdm] at h2
          have hdn := (hR.dn (hd.1 hdm)).mono (b := 400) (by omega)
          refine t_numberD hL (Or.inl h2) (fun m3 y g3 h3 => ?_)
          exact afB m3 _ y bb 0 O.length x4 (gm2.tr (pr_Tq g3)) h3 (by rw [g3.at (by simp [pTq])]; omega) (by rw [g3.at (by simp [pTq])]; omega) (by rw [g3.at (by simp [pTq])]; omega) (by rw [g3.at (by simp [pTq])]; omega) hdn
        · unfold Tko at h2
          rw [if_neg hdm] at h2
          have hR2 := hR.tr (hd.2 hdm)
          have hmo : mm ≤ 99 := by omega
          refine t_numberA hL hP h2 hmo (fun h22 hnu m3 g3 h3 => ?_) (fun hno m3 y g3 h3 => ?_)
          · have r20 : m3 0 80 20 = m 0 80 20 := by rw [g3.at (by simp [pTq]), q20]
            have r24 : m3 0 80 24 = m 0 80 24 := by rw [g3.at (by simp [pTq]), q24]
            have r25 : m3 0 80 25 = m 0 80 25 := by rw [g3.at (by simp [pTq]), q25]
            have r90 : m3 0 90 = m 0 90 := by rw [g3.row (fun k => by simp [pTq]), q90]
            have r89 : m3 0 89 = m 0 89 := by rw [g3.row (fun k => by simp [pTq]), q89]
            obtain ⟨p1, p2, p3, p4⟩ := h2.nx hP (by omega)
            have hnt := num_t (tk := tkF t N) (nu := nuF t N) (nx := nxF t N) (o := o) (f := nxF t N f1) (u := u1 + 1) (b' := b + O.length) (y := 300 + (ww : Int)) (tg := tg) (e := e) (r := OS O ++ r) (pp := pp) (v := v) (c := c) (by omega) (by omega) hsl p2 h22 (by rw [hms]; exact hnu)
            rw [if_neg (by omega), if_neg (by omega), if_neg (by omega), show 300 + (ww : Int) - 300 = ww by omega] at hnt
            have hnn := (TkE_F hP.2 (nxF t N f1) (by omega) (by omega)).1.1
            have htok : tokOf op (nuF t N (nxF t N f1)) = ((ww : Int), nuF t N (nxF t N f1)) := by
              rcases hww with z | z
              · rw [z.2.2.2, z.1]
                unfold tokOf
                rw [if_neg (by decide), if_neg (by decide), if_neg (by decide), if_neg (by decide), if_pos rfl, if_neg (by omega)]
                rfl
              · rw [z.2.2.2, z.1]; rfl
            by_cases hdm2 : 59 ≤ u1 + 1 ∧ tkF t N (nxF t N (nxF t N f1)) ≠ 91 ∧ tkF t N (nxF t N (nxF t N f1)) ≠ 23
            · unfold Tko at h3
              rw [if_pos hdm2] at h3
              exact afD m3 _ _ bb 0 O.length x4 (gm2.tr (pr_Tq g3)) h3 (by omega) (by omega) (by omega) (by omega) (by omega) ((hR2.dn (hnt.1 hdm2)).mono (by omega))
            · unfold Tko at h3
              rw [if_neg hdm2] at h3
              exact afA m3 _ _ _ bb 0 op O (a + 1 + 1) x4 _ (gm2.tr (pr_Tq g3)) h3 (by omega) hb18 (by omega) (by rw [r89]; exact h89) (hC1.mv r20 (by rw [g3.row (fun k => by simp [pTq]), g2.row (fun k => by simp [pTq])]) (by rw [g3.row (fun k => by simp [pTq]), g2.row (fun k => by simp [pTq])])) (by omega) (by rw [r90]; exact hov) hop (by omega) (by omega) (by omega) htok (hR2.tr (hnt.2 hdm2))
          · have hnf := num_f (tk := tkF t N) (nu := nuF t N) (nx := nxF t N) (o := o) (f := nxF t N f1) (u := u1 + 1) (b' := b + O.length) (y := 300 + (ww : Int)) (tg := tg) (e := e) (r := OS O ++ r) (pp := pp) (v := v) (c := c) (by omega) (by omega) hsl n2 (by rw [hms]; exact hno)
            exact afB m3 _ y bb 0 O.length x4 (gm2.tr (pr_Tq g3)) h3 (by rw [g3.at (by simp [pTq])]; omega) (by rw [g3.at (by simp [pTq])]; omega) (by rw [g3.at (by simp [pTq])]; omega) (by rw [g3.at (by simp [pTq])]; omega) ((hR2.dn hnf).mono (by omega))
      refine s_iload_n (dc kc_X12_readNode_1 23 rfl) rfl <| s_if_eq (tgt := 140) (dc kc_X12_readNode_1 24 rfl) rfl (fun c133 => (r_aload_n (dc kc_X12_readNode_1 27 rfl) rfl <| s_iload_n (dc kc_X12_readNode_1 28 rfl) rfl <| s_if_eq (tgt := 151) (dc kc_X12_readNode_1 29 rfl) rfl (fun c142 => (k_j (dc kc_X12_readNode_1 32 rfl) kj_X12_235 rfl (a := 2) (by decide) <| ?_)) (fun c142 => (k_j (dc kc_X12_readNode_1 30 rfl) kj_X12_107 rfl (a := 5) (by decide) <| s_goto (tgt := 154) (dc kc_X12_readNode_1 31 rfl) rfl <| ?_)))) (fun c133 => (k_i (dc kc_X12_readNode_1 25 rfl) rfl <| s_goto (tgt := 157) (dc kc_X12_readNode_1 26 rfl) rfl <| ?_))
      all_goals first | (exfalso; omega) | exact go _ (by omega)
    refine r_aload_n (dc kc_X12_readNode_0 38 rfl) rfl <| s_getZ (dc kc_X12_readNode_0 39 rfl) fl_X12_146 <| s_if_eq (tgt := 89) (dc kc_X12_readNode_1 0 rfl) rfl (fun c85 => (?_)) (fun c85 => (s_return (dc kc_X12_readNode_1 1 rfl) rfl (Nat.zero_le _) (Nat.zero_le _) ?_))
    · refine r_aload_n (dc kc_X12_readNode_1 2 rfl) rfl <| k_j (dc kc_X12_readNode_1 3 rfl) kj_X12_229 rfl (a := 474245) (by decide) <| c_v1r (dc kc_X12_readNode_1 4 rfl) cl_X12_220 rfl (Nat.le_of_ble_eq_true rfl) (Nat.zero_le _) (Nat.zero_le _) <| t_isWord <| t_i2 (dc kc_X12_readNode_1 5 rfl) (Nat.le_of_ble_eq_true rfl) rfl <| r_aload_n (dc kc_X12_readNode_1 6 rfl) rfl <| k_j (dc kc_X12_readNode_1 7 rfl) kj_X12_231 rfl (a := 15556945351) (by decide) <| c_v1r (dc kc_X12_readNode_1 8 rfl) cl_X12_220 rfl (Nat.le_of_ble_eq_true rfl) (Nat.zero_le _) (Nat.zero_le _) <| t_isWord <| t_i3 (dc kc_X12_readNode_1 9 rfl) (Nat.le_of_ble_eq_true rfl) rfl <| ?_
      by_cases c13 : tkF t N f1 = 13
      · rw [bi_t (w13.mpr c13), bi_f (fun z => by have := w14.mp z; omega)]
        refine r_aload_n (dc kc_X12_readNode_1 10 rfl) rfl <| s_iload_n (dc kc_X12_readNode_1 11 rfl) rfl <| s_if_ne (tgt := 124) (dc kc_X12_readNode_1 12 rfl) rfl (fun c107 => (k_i (dc kc_X12_readNode_1 19 rfl) rfl <| s_goto (tgt := 129) (dc kc_X12_readNode_1 20 rfl) rfl <| ?_)) (fun c107 => (s_iload_n (dc kc_X12_readNode_1 13 rfl) rfl <| s_if_ne (tgt := 124) (dc kc_X12_readNode_1 14 rfl) rfl (fun c111 => (k_i (dc kc_X12_readNode_1 19 rfl) rfl <| s_goto (tgt := 129) (dc kc_X12_readNode_1 20 rfl) rfl <| ?_)) (fun c111 => (r_aload_n (dc kc_X12_readNode_1 15 rfl) rfl <| k_j (dc kc_X12_readNode_1 16 rfl) kj_X12_233 rfl (a := 267300) (by decide) <| c_v1r (dc kc_X12_readNode_1 17 rfl) cl_X12_220 rfl (Nat.le_of_ble_eq_true rfl) (Nat.zero_le _) (Nat.zero_le _) <| t_isWord <| s_if_eqb (tgt := 128) (dc kc_X12_readNode_1 18 rfl) rfl (fun c121 => (k_i (dc kc_X12_readNode_1 21 rfl) rfl <| ?_)) (fun c121 => (k_i (dc kc_X12_readNode_1 19 rfl) rfl <| s_goto (tgt := 129) (dc kc_X12_readNode_1 20 rfl) rfl <| ?_))))))
        all_goals first | (exfalso; omega) | exact wnum 13 1 5 4 _ (Or.inl ⟨rfl, rfl, rfl, rfl⟩) c13
      · by_cases c14 : tkF t N f1 = 14
        · rw [bi_t (w14.mpr c14), bi_f (fun z => by have := w13.mp z; omega)]
          obtain ⟨n1, n2, n3, n4⟩ := hA1.nx hP (by omega)
          have hd := rul_t (tk := tkF t N) (nu := nuF t N) (nx := nxF t N) (o := o) (f := f1) (u := u1) (b' := b + O.length) (y := 723) (tg := tg) (e := e) (L := [414]) (r := OS O ++ r) (pp := pp) (v := v) (c := c) (by decide) hsl n2 (by rw [c14]; rfl)
          have go : Run (d+6) mt_X12_readNode Q (n, mr, 0, 0) m 129 [vR (some (0, 80)), vI (O.length : Int), vI 0, vI 1, x4] [vI 1, vR (some (0, 80))] := by
            refine c_v1 (dc kc_X12_readNode_1 22 rfl) cl_X12_187 rfl (Nat.le_of_ble_eq_true rfl) (Nat.zero_le _) (Nat.zero_le _) ?_
            refine t_mustA hL hP hA1 (by omega) (by omega) (fun m2 g2 h2 => ?_)
            have q20 : m2 0 80 20 = m 0 80 20 := g2.at (by simp [pTq])
            have q24 : m2 0 80 24 = m 0 80 24 := g2.at (by simp [pTq])
            have q25 : m2 0 80 25 = m 0 80 25 := g2.at (by simp [pTq])
            have q90 : m2 0 90 = m 0 90 := g2.row (fun k => by simp [pTq])
            have q89 : m2 0 89 = m 0 89 := g2.row (fun k => by simp [pTq])
            refine s_iload_n (dc kc_X12_readNode_1 23 rfl) rfl <| s_if_eq (tgt := 140) (dc kc_X12_readNode_1 24 rfl) rfl (fun c133 => (?_)) (fun c133 => (k_i (dc kc_X12_readNode_1 25 rfl) rfl <| s_goto (tgt := 157) (dc kc_X12_readNode_1 26 rfl) rfl <| ?_))
            · exfalso; omega
            · by_cases hdm : 59 ≤ u1 ∧ tkF t N (nxF t N f1) ≠ 91 ∧ tkF t N (nxF t N f1) ≠ 23
              · unfold Tko at h2
                rw [if_pos hdm] at h2
                exact afD m2 _ _ 0 1 O.length x4 (gm.tr (pr_Tq g2)) h2 (by omega) (by omega) (by omega) (by omega) (by omega) ((hR.dn (hd.1 hdm)).mono (by omega))
              · unfold Tko at h2
                rw [if_neg hdm] at h2
                exact afA m2 _ _ _ 0 1 4 O (a + 1 + 1) x4 (14, 0) (gm.tr (pr_Tq g2)) h2 (by omega) hb18 (by omega) (by rw [q89]; exact h89) (hC1.mv q20 (g2.row (fun k => by simp [pTq])) (g2.row (fun k => by simp [pTq]))) (by omega) (by rw [q90]; exact hov) hop (by omega) (by omega) (by omega) rfl ((hR.tr (hd.2 hdm)).tr (emt (by decide) (by decide) hsl))
          refine r_aload_n (dc kc_X12_readNode_1 10 rfl) rfl <| s_iload_n (dc kc_X12_readNode_1 11 rfl) rfl <| s_if_ne (tgt := 124) (dc kc_X12_readNode_1 12 rfl) rfl (fun c107 => (k_i (dc kc_X12_readNode_1 19 rfl) rfl <| s_goto (tgt := 129) (dc kc_X12_readNode_1 20 rfl) rfl <| ?_)) (fun c107 => (s_iload_n (dc kc_X12_readNode_1 13 rfl) rfl <| s_if_ne (tgt := 124) (dc kc_X12_readNode_1 14 rfl) rfl (fun c111 => (k_i (dc kc_X12_readNode_1 19 rfl) rfl <| s_goto (tgt := 129) (dc kc_X12_readNode_1 20 rfl) rfl <| ?_)) (fun c111 => (r_aload_n (dc kc_X12_readNode_1 15 rfl) rfl <| k_j (dc kc_X12_readNode_1 16 rfl) kj_X12_233 rfl (a := 267300) (by decide) <| c_v1r (dc kc_X12_readNode_1 17 rfl) cl_X12_220 rfl (Nat.le_of_ble_eq_true rfl) (Nat.zero_le _) (Nat.zero_le _) <| t_isWord <| s_if_eqb (tgt := 128) (dc kc_X12_readNode_1 18 rfl) rfl (fun c121 => (k_i (dc kc_X12_readNode_1 21 rfl) rfl <| ?_)) (fun c121 => (k_i (dc kc_X12_readNode_1 19 rfl) rfl <| s_goto (tgt := 129) (dc kc_X12_readNode_1 20 rfl) rfl <| ?_))))))
          all_goals first | (exfalso; omega) | exact go
        · by_cases c8 : tkF t N f1 = 8
          · rw [bi_f (fun z => c13 (w13.mp z)), bi_f (fun z => c14 (w14.mp z))]
            have c8' := w8.mpr c8
            refine r_aload_n (dc kc_X12_readNode_1 10 rfl) rfl <| s_iload_n (dc kc_X12_readNode_1 11 rfl) rfl <| s_if_ne (tgt := 124) (dc kc_X12_readNode_1 12 rfl) rfl (fun c107 => (k_i (dc kc_X12_readNode_1 19 rfl) rfl <| s_goto (tgt := 129) (dc kc_X12_readNode_1 20 rfl) rfl <| ?_)) (fun c107 => (s_iload_n (dc kc_X12_readNode_1 13 rfl) rfl <| s_if_ne (tgt := 124) (dc kc_X12_readNode_1 14 rfl) rfl (fun c111 => (k_i (dc kc_X12_readNode_1 19 rfl) rfl <| s_goto (tgt := 129) (dc kc_X12_readNode_1 20 rfl) rfl <| ?_)) (fun c111 => (r_aload_n (dc kc_X12_readNode_1 15 rfl) rfl <| k_j (dc kc_X12_readNode_1 16 rfl) kj_X12_233 rfl (a := 267300) (by decide) <| c_v1r (dc kc_X12_readNode_1 17 rfl) cl_X12_220 rfl (Nat.le_of_ble_eq_true rfl) (Nat.zero_le _) (Nat.zero_le _) <| t_isWord <| s_if_eqb (tgt := 128) (dc kc_X12_readNode_1 18 rfl) rfl (fun c121 => (k_i (dc kc_X12_readNode_1 21 rfl) rfl <| ?_)) (fun c121 => (k_i (dc kc_X12_readNode_1 19 rfl) rfl <| s_goto (tgt := 129) (dc kc_X12_readNode_1 20 rfl) rfl <| ?_))))))
            all_goals first | (exfalso; omega) | exact wnum 8 0 2 5 _ (Or.inr ⟨rfl, rfl, rfl, rfl⟩) c8
          · rw [bi_f (fun z => c13 (w13.mp z)), bi_f (fun z => c14 (w14.mp z))]
            have c8' : ¬ (m 0 80 14 = 1 ∧ m 0 80 15 = 267300) := fun z => c8 (w8.mp z)
            have hd := rul_f (tk := tkF t N) (nu := nuF t N) (nx := nxF t N) (o := o) (f := f1) (u := u1) (b' := b + O.length) (y := 723) (tg := tg) (e := e) (r := OS O ++ r) (pp := pp) (v := v) (c := c) (by decide) hsl (by omega) (by rw [prd_723, if_neg c13, if_neg c8, if_neg c14, if_neg h10, if_neg h11])
            have go : Run (d+6) mt_X12_readNode Q (n, mr, 0, 0) m 129 [vR (some (0, 80)), vI (O.length : Int), vI 0, vI 0, x4] [vI 0, vR (some (0, 80))] := by
              refine c_v1 (dc kc_X12_readNode_1 22 rfl) cl_X12_187 rfl (Nat.le_of_ble_eq_true rfl) (Nat.zero_le _) (Nat.zero_le _) ?_
              refine t_mustF hL hA1 (fun m2 g2 h2 => ?_)
              have q20 : m2 0 80 20 = m 0 80 20 := g2.at (by simp [pTq])
              have q24 : m2 0 80 24 = m 0 80 24 := g2.at (by simp [pTq])
              have q25 : m2 0 80 25 = m 0 80 25 := g2.at (by simp [pTq])
              have go2 : ∀ mm : Int, Run (d+6) mt_X12_readNode Q (n, mr, 0, 0) m2 154 [vR (some (0, 80)), vI (O.length : Int), vI 0, vI 0, x4] [vL mm, vR (some (0, 80))] := fun mm => by
                refine c_v1r (dc kc_X12_readNode_1 33 rfl) cl_X12_237 rfl (Nat.le_of_ble_eq_true rfl) (Nat.zero_le _) (Nat.zero_le _) ?_
                refine t_numberD hL (t := t) (N := N) (Or.inr h2) (fun m3 y g3 h3 => ?_)
                exact afB m3 _ y 0 0 O.length x4 ((gm.tr (pr_Tq g2)).tr (pr_Tq g3)) h3 (by rw [g3.at (by simp [pTq])]; omega) (by rw [g3.at (by simp [pTq])]; omega) (by rw [g3.at (by simp [pTq])]; omega) (by rw [g3.at (by simp [pTq])]; omega) ((hR.dn hd).mono (by omega))
              refine s_iload_n (dc kc_X12_readNode_1 23 rfl) rfl <| s_if_eq (tgt := 140) (dc kc_X12_readNode_1 24 rfl) rfl (fun c133 => (r_aload_n (dc kc_X12_readNode_1 27 rfl) rfl <| s_iload_n (dc kc_X12_readNode_1 28 rfl) rfl <| s_if_eq (tgt := 151) (dc kc_X12_readNode_1 29 rfl) rfl (fun c142 => (k_j (dc kc_X12_readNode_1 32 rfl) kj_X12_235 rfl (a := 2) (by decide) <| ?_)) (fun c142 => (k_j (dc kc_X12_readNode_1 30 rfl) kj_X12_107 rfl (a := 5) (by decide) <| s_goto (tgt := 154) (dc kc_X12_readNode_1 31 rfl) rfl <| ?_)))) (fun c133 => (k_i (dc kc_X12_readNode_1 25 rfl) rfl <| s_goto (tgt := 157) (dc kc_X12_readNode_1 26 rfl) rfl <| ?_))
              all_goals first | (exfalso; omega) | exact go2 _
            refine r_aload_n (dc kc_X12_readNode_1 10 rfl) rfl <| s_iload_n (dc kc_X12_readNode_1 11 rfl) rfl <| s_if_ne (tgt := 124) (dc kc_X12_readNode_1 12 rfl) rfl (fun c107 => (k_i (dc kc_X12_readNode_1 19 rfl) rfl <| s_goto (tgt := 129) (dc kc_X12_readNode_1 20 rfl) rfl <| ?_)) (fun c107 => (s_iload_n (dc kc_X12_readNode_1 13 rfl) rfl <| s_if_ne (tgt := 124) (dc kc_X12_readNode_1 14 rfl) rfl (fun c111 => (k_i (dc kc_X12_readNode_1 19 rfl) rfl <| s_goto (tgt := 129) (dc kc_X12_readNode_1 20 rfl) rfl <| ?_)) (fun c111 => (r_aload_n (dc kc_X12_readNode_1 15 rfl) rfl <| k_j (dc kc_X12_readNode_1 16 rfl) kj_X12_233 rfl (a := 267300) (by decide) <| c_v1r (dc kc_X12_readNode_1 17 rfl) cl_X12_220 rfl (Nat.le_of_ble_eq_true rfl) (Nat.zero_le _) (Nat.zero_le _) <| t_isWord <| s_if_eqb (tgt := 128) (dc kc_X12_readNode_1 18 rfl) rfl (fun c121 => (k_i (dc kc_X12_readNode_1 21 rfl) rfl <| ?_)) (fun c121 => (k_i (dc kc_X12_readNode_1 19 rfl) rfl <| s_goto (tgt := 129) (dc kc_X12_readNode_1 20 rfl) rfl <| ?_))))))
            all_goals first | (exfalso; omega) | exact go
    · exfalso; omega
  have loop : ∀ (k : Nat) (m : MI) (f1 u1 : Int) (O : List Int) (a : Nat) (x2 x3 x4 : V), isL x2 = false → isL x3 = false → (60 - u1).toNat ≤ k → Ch (pPr C0) mi m → RA t N m f1 u1 → m 0 80 25 = b + O.length → b + O.length ≤ 8 → m 0 80 24 = mi 0 80 24 → m 0 89 = mi 0 89 → CdR m C0 K → m 0 80 20 + z + O.length + w ≤ f1 → Arr (m 0 90) O.reverse → (∀ x ∈ O, x = 6 ∨ x = 7) → u ≤ u1 → (a : Int) ≤ 5 * (u1 - u) → Rh (tkF t N) (nuF t N) (nxF t N) o a s0 (f1, u1, b + O.length, -1, 723 :: (OS O ++ r), tg, e, pp, v, c) → Run (d+6) mt_X12_readNode Q (n, mr, 0, 0) m 2 [vR (some (0, 80)), vI (O.length : Int), x2, x3, x4] [] := by
    intro k
    induction k with
    | zero =>
      intro m f1 u1 O a x2 x3 x4 hx2 hx3 hk gm hA1 hb1 hb18 h24 h89 hC1 hw1 hov hop hu1 ha hR
      have e17 := hA1.2.2.1
      have hf1 := hA1.2.2.2.2.1
      have hu60 := hA1.2.2.2.2.2.1
      have w10 := hA1.2.1.word hP hf1.1 10 (by decide) (H := 464660) (by decide +kernel)
      have w11 := hA1.2.1.word hP hf1.1 11 (by decide) (H := 66667) (by decide +kernel)
      have hx := hA1.2.2.2.2.2.2.1 (by omega)
      refine r_aload_n (dc kc_X12_readNode_0 2 rfl) rfl <| s_getZ (dc kc_X12_readNode_0 3 rfl) fl_X12_146 <| s_if_ne (tgt := 81) (dc kc_X12_readNode_0 4 rfl) rfl (fun c6 => (?_)) (fun c6 => (r_aload_n (dc kc_X12_readNode_0 5 rfl) rfl <| k_j (dc kc_X12_readNode_0 6 rfl) kj_X12_218 rfl (a := 464660) (by decide) <| c_v1r (dc kc_X12_readNode_0 7 rfl) cl_X12_220 rfl (Nat.le_of_ble_eq_true rfl) (Nat.zero_le _) (Nat.zero_le _) <| t_isWord <| s_if_neb (tgt := 29) (dc kc_X12_readNode_0 8 rfl) rfl (fun c16 => (?_)) (fun c16 => (r_aload_n (dc kc_X12_readNode_0 9 rfl) rfl <| k_j (dc kc_X12_readNode_0 10 rfl) kj_X12_224 rfl (a := 66667) (by decide) <| c_v1r (dc kc_X12_readNode_0 11 rfl) cl_X12_220 rfl (Nat.le_of_ble_eq_true rfl) (Nat.zero_le _) (Nat.zero_le _) <| t_isWord <| s_if_eqb (tgt := 81) (dc kc_X12_readNode_0 12 rfl) rfl (fun c26 => (?_)) (fun c26 => (?_))))))
      · exfalso; omega
      · exfalso; have := w10.mp c16; omega
      · exact base m f1 u1 O a _ _ _ hx2 hx3 (by omega) (by omega) gm hA1 hb1 hb18 h24 h89 hC1 hw1 hov hop hu1 ha hR
      · exfalso; have := w11.mp c26; omega
    | succ k ih =>
      intro m f1 u1 O a x2 x3 x4 hx2 hx3 hk gm hA1 hb1 hb18 h24 h89 hC1 hw1 hov hop hu1 ha hR
      have e17 := hA1.2.2.1
      have e20 := hC1.1
      have hf1 := hA1.2.2.2.2.1
      have hu60 := hA1.2.2.2.2.2.1
      have w10 := hA1.2.1.word hP hf1.1 10 (by decide) (H := 464660) (by decide +kernel)
      have w11 := hA1.2.1.word hP hf1.1 11 (by decide) (H := 66667) (by decide +kernel)
      have hsl : (OS O ++ r).length < 240 := by rw [List.length_append, OS_len]; omega
      have go : ∀ op : Int, (op = 6 ∧ tkF t N f1 = 10) ∨ (op = 7 ∧ tkF t N f1 = 11) → Run (d+6) mt_X12_readNode Q (n, mr, 0, 0) m 46 [vR (some (0, 80)), vI (O.length : Int), x2, x3, x4] [vI op] := by
        intro op hop1
        obtain ⟨n1, n2, n3, n4⟩ := hA1.nx hP (by omega)
        have hprd : prd o (tkF t N f1) 723 = some (1, [724, (if op = 6 then 410 else 411)]) := by
          rcases hop1 with z | z <;> (rw [z.2, z.1]; rfl)
        have hd := rul_t (tk := tkF t N) (nu := nuF t N) (nx := nxF t N) (o := o) (f := f1) (u := u1) (b' := b + O.length) (y := 723) (tg := tg) (e := e) (r := OS O ++ r) (pp := pp) (v := v) (c := c) (by decide) (by omega) n2 hprd
        refine t_i2 (dc kc_X12_readNode_0 20 rfl) (Nat.le_of_ble_eq_true rfl) rfl <| r_aload_n (dc kc_X12_readNode_0 21 rfl) rfl <| c_v0 (dc kc_X12_readNode_0 22 rfl) cl_X12_184 rfl (Nat.le_of_ble_eq_true rfl) (Nat.zero_le _) (Nat.zero_le _) ?_
        refine t_passA hL hP hA1 (by omega) (by omega) (fun m2 g2 h2 => ?_)
        have q20 : m2 0 80 20 = m 0 80 20 := g2.at (by simp [pTq])
        have q24 : m2 0 80 24 = m 0 80 24 := g2.at (by simp [pTq])
        have q25 : m2 0 80 25 = m 0 80 25 := g2.at (by simp [pTq])
        have q90 : m2 0 90 = m 0 90 := g2.row (fun k => by simp [pTq])
        have q89 : m2 0 89 = m 0 89 := g2.row (fun k => by simp [pTq])
        have gm2 := gm.tr (pr_Tq (C0 := C0) g2)
        have bad : ∀ (m3 : MI) (p : Int), Ch (pPr C0) mi m3 → RB m3 p → m3 0 80 20 = m 0 80 20 → m3 0 80 24 = m 0 80 24 → (-100 ≤ m3 0 80 25 ∧ m3 0 80 25 ≤ 100) → Dn (tkF t N) (nuF t N) (nxF t N) o 400 s0 p → Run (d+6) mt_X12_readNode Q (n, mr, 0, 0) m3 61 [vR (some (0, 80)), vI (O.length : Int), vI op, x3, x4] [] := fun m3 p g3 h3 r20 r24 r25 hdn => by
          have e17 := h3.1
          refine r_aload_n (dc kc_X12_readNode_0 28 rfl) rfl <| s_getZ (dc kc_X12_readNode_0 29 rfl) fl_X12_146 <| s_if_ne (tgt := 78) (dc kc_X12_readNode_0 30 rfl) rfl (fun c65 => (s_goto (tgt := 2) (dc kc_X12_readNode_0 37 rfl) rfl <| ?_)) (fun c65 => (?_))
          · exact t_node2D hL rfl hx3 O.length m3 p g3 ⟨Or.inr h3, by omega, hz, by omega, fun z => by omega, r25⟩ (fun m' gm' hdx e' => hQD m' p gm' hdx (by rw [e']; omega) hdn)
          · exfalso; omega
        refine r_aload_n (dc kc_X12_readNode_0 23 rfl) rfl <| r_aload_n (dc kc_X12_readNode_0 24 rfl) rfl <| k_b (dc kc_X12_readNode_0 25 rfl) rfl <| c_v1r (dc kc_X12_readNode_0 26 rfl) cl_X12_215 rfl (Nat.le_of_ble_eq_true rfl) (Nat.zero_le _) (Nat.zero_le _) <| t_isSign <| c_v1 (dc kc_X12_readNode_0 27 rfl) cl_X12_226 rfl (Nat.le_of_ble_eq_true rfl) (Nat.zero_le _) (Nat.zero_le _) ?_
        by_cases hdm : 59 ≤ u1 ∧ tkF t N (nxF t N f1) ≠ 91 ∧ tkF t N (nxF t N f1) ≠ 23
        · unfold Tko at h2
          rw [if_pos hdm] at h2
          refine t_openD hL bi_01 (Or.inl h2) (by omega) (fun m3 g3 h3 e3 => ?_)
          exact bad m3 _ (gm2.tr (pr_Op g3)) h3 (by rw [g3.at (by simp [pOpn])]; exact q20) (by rw [g3.at (by simp [pOpn])]; exact q24) (by omega) ((hR.dn (hd.1 hdm)).mono (by omega))
        · unfold Tko at h2
          rw [if_neg hdm] at h2
          have hR2 := (hR.tr (hd.2 hdm)).tr (rul_0 (o := o) (L := [72, 723, 73]) (by decide) (by show (_ :: (OS O ++ r)).length < 250; rw [List.length_cons]; omega) prd_724)
          have s40 := h2.2.1.sign hP h2.2.2.2.2.1.1 (c := 40) (by decide) (by decide) (by decide)
          have h2f := h2.2.2.2.2.1
          refine t_openA hL hP h2 (b := b + O.length) (by omega) (by omega) (by omega) bi_01 (fun z => by
            have := s40.mp (bi_eq1.mp z)
            omega) (fun hx1 hb9 m3 g3 h3 e3 => ?_) (fun hno m3 g3 h3 e3 => ?_)
          · have h72 : tkF t N (nxF t N f1) = 72 := s40.mp (bi_eq1.mp hx1)
            have r20 : m3 0 80 20 = m 0 80 20 := by rw [g3.at (by simp [pOpn]), q20]
            have r24 : m3 0 80 24 = m 0 80 24 := by rw [g3.at (by simp [pOpn]), q24]
            have r90 : m3 0 90 = m 0 90 := by rw [g3.row (fun k => by simp [pOpn]), q90]
            have r89 : m3 0 89 = m 0 89 := by rw [g3.row (fun k => by simp [pOpn]), q89]
            have e17 := h3.b
            obtain ⟨p1, p2, p3, p4⟩ := h2.nx hP (by omega)
            have hdt := due_t (tk := tkF t N) (nu := nuF t N) (nx := nxF t N) (o := o) (f := nxF t N f1) (u := u1 + 1) (b' := b + O.length) (y := 72) (tg := tg) (e := e) (r := 723 :: 73 :: (if op = 6 then 410 else 411) :: (OS O ++ r)) (pp := pp) (v := v) (c := c) (by decide) (by rw [List.length_cons, List.length_cons, List.length_cons]; omega) p2 h72 (by omega)
            rw [if_pos (Or.inl rfl)] at hdt
            have hcnt : ((op :: O).length : Int) = (O.length : Int) + 1 := by rw [List.length_cons]; omega
            have g4 : Ch (pPr C0) mi (up m3 0 90 (O.length : Int) op) := (gm2.tr (pr_Op g3)).up (by simp [pPr])
            have c90 : Ch (fun j _ => j == 90) m3 (up m3 0 90 (O.length : Int) op) := Ch.rf.up (by simp)
            refine r_aload_n (dc kc_X12_readNode_0 28 rfl) rfl <| s_getZ (dc kc_X12_readNode_0 29 rfl) fl_X12_146 <| s_if_ne (tgt := 78) (dc kc_X12_readNode_0 30 rfl) rfl (fun c65 => (s_goto (tgt := 2) (dc kc_X12_readNode_0 37 rfl) rfl <| ?_)) (fun c65 => (r_aload_n (dc kc_X12_readNode_0 31 rfl) rfl <| s_getA (dc kc_X12_readNode_0 32 rfl) fl_X12_42 (ly_80_26 hL) <| s_iload_n (dc kc_X12_readNode_0 33 rfl) rfl <| s_iload_n (dc kc_X12_readNode_0 34 rfl) rfl <| s_iastore (dc kc_X12_readNode_0 35 rfl) rfl (by first | omega | (simp [up] <;> omega)) (by first | omega | (simp [up] <;> omega)) <| b_inc1 (dc kc_X12_readNode_0 36 rfl) rfl (Nat.le_of_ble_eq_true rfl) rfl (by first | omega | (simp [up] <;> omega)) (by first | omega | (simp [up] <;> omega)) <| s_goto (tgt := 2) (dc kc_X12_readNode_0 37 rfl) rfl <| ?_))
            · exfalso; omega
            · by_cases hdm2 : 59 ≤ u1 + 1 ∧ tkF t N (nxF t N (nxF t N f1)) ≠ 91 ∧ tkF t N (nxF t N (nxF t N f1)) ≠ 23
              · unfold Tko at h3
                rw [if_pos hdm2] at h3
                have := t_node2D hL (x2 := vI op) (x3 := x3) (x4 := x4) (C0 := C0) (mi0 := mi) (Q := Q) (n := n) (mr := mr) (d := d) rfl hx3 (O.length + 1) (up m3 0 90 (O.length : Int) op) _ g4 ⟨Or.inl (h3.mv c90 (fun k => by simp) (fun k k0 k1 => by simp)), by rw [up_j (by decide)]; omega, hz, by rw [up_j (by decide)]; omega, fun _ => by rw [up_j (by decide)]; omega, by rw [up_j (by decide)]; omega⟩ (fun m' gm' hdx e' => hQD m' _ gm' hdx (by rw [e', up_j (by decide)]; omega) ((hR2.dn (hdt.1 hdm2)).mono (by omega)))
                rw [show ((O.length + 1 : Nat) : Int) = (O.length : Int) + 1 by omega] at this
                exact this
              · unfold Tko at h3
                rw [if_neg hdm2] at h3
                have hR3 := hR2.tr (hdt.2 hdm2)
                have := ih (up m3 0 90 (O.length : Int) op) _ _ (op :: O) (a + 1 + 1 + 1) (vI op) x3 x4 rfl hx3 (by omega) g4 (h3.mv c90 (fun k => by simp) (fun k k0 k1 _ => by simp)) (by rw [up_j (by decide), hcnt]; omega) (by rw [hcnt]; omega) (by rw [up_j (by decide)]; omega) (by rw [up_j (by decide), r89]; exact h89) (hC1.mv (by rw [up_j (by decide), r20]) (by rw [up_j (by decide), g3.row (fun k => by simp [pOpn]), g2.row (fun k => by simp [pTq])]) (by rw [up_j (by decide), g3.row (fun k => by simp [pOpn]), g2.row (fun k => by simp [pTq])])) (by rw [up_j (by decide), hcnt]; omega) (by
                  rw [up_ud, List.reverse_cons, r90]
                  exact hov.snoc' (by rw [List.length_reverse])) (fun x hx => by
                    rcases List.mem_cons.mp hx with z | z
                    · rw [z]; omega
                    · exact hop x z) (by omega) (by omega) (by
                  rw [hcnt, show b + ((O.length : Int) + 1) = b + (O.length : Int) + 1 by omega]
                  exact hR3)
                rw [hcnt] at this
                exact this
          · have hdf := due_f (tk := tkF t N) (nu := nuF t N) (nx := nxF t N) (o := o) (f := nxF t N f1) (u := u1 + 1) (b' := b + O.length) (y := 72) (tg := tg) (e := e) (r := 723 :: 73 :: (if op = 6 then 410 else 411) :: (OS O ++ r)) (pp := pp) (v := v) (c := c) (by decide) (by rw [List.length_cons, List.length_cons, List.length_cons]; omega) n2 (by
              by_cases z : tkF t N (nxF t N f1) = 72
              · right
                refine ⟨Or.inl rfl, ?_⟩
                by_cases w9 : b + (O.length : Int) < 8
                · exact absurd ⟨bi_t (s40.mpr z), w9⟩ hno
                · omega
              · exact Or.inl z)
            exact bad m3 _ (gm2.tr (pr_Op g3)) h3 (by rw [g3.at (by simp [pOpn])]; exact q20) (by rw [g3.at (by simp [pOpn])]; exact q24) (by omega) ((hR2.dn hdf).mono (by omega))
      refine r_aload_n (dc kc_X12_readNode_0 2 rfl) rfl <| s_getZ (dc kc_X12_readNode_0 3 rfl) fl_X12_146 <| s_if_ne (tgt := 81) (dc kc_X12_readNode_0 4 rfl) rfl (fun c6 => (?_)) (fun c6 => (r_aload_n (dc kc_X12_readNode_0 5 rfl) rfl <| k_j (dc kc_X12_readNode_0 6 rfl) kj_X12_218 rfl (a := 464660) (by decide) <| c_v1r (dc kc_X12_readNode_0 7 rfl) cl_X12_220 rfl (Nat.le_of_ble_eq_true rfl) (Nat.zero_le _) (Nat.zero_le _) <| t_isWord <| s_if_neb (tgt := 29) (dc kc_X12_readNode_0 8 rfl) rfl (fun c16 => (?_)) (fun c16 => (r_aload_n (dc kc_X12_readNode_0 9 rfl) rfl <| k_j (dc kc_X12_readNode_0 10 rfl) kj_X12_224 rfl (a := 66667) (by decide) <| c_v1r (dc kc_X12_readNode_0 11 rfl) cl_X12_220 rfl (Nat.le_of_ble_eq_true rfl) (Nat.zero_le _) (Nat.zero_le _) <| t_isWord <| s_if_eqb (tgt := 81) (dc kc_X12_readNode_0 12 rfl) rfl (fun c26 => (?_)) (fun c26 => (?_))))))
      · exfalso; omega
      · refine r_aload_n (dc kc_X12_readNode_0 13 rfl) rfl <| k_j (dc kc_X12_readNode_0 14 rfl) kj_X12_218 rfl (a := 464660) (by decide) <| c_v1r (dc kc_X12_readNode_0 15 rfl) cl_X12_220 rfl (Nat.le_of_ble_eq_true rfl) (Nat.zero_le _) (Nat.zero_le _) <| t_isWord <| s_if_eqb (tgt := 44) (dc kc_X12_readNode_0 16 rfl) rfl (fun c36 => (k_b (dc kc_X12_readNode_0 19 rfl) rfl <| ?_)) (fun c36 => (k_b (dc kc_X12_readNode_0 17 rfl) rfl <| s_goto (tgt := 46) (dc kc_X12_readNode_0 18 rfl) rfl <| ?_))
        · exfalso; exact c36 c16
        · exact go 6 (Or.inl ⟨rfl, w10.mp c16⟩)
      · exact base m f1 u1 O a _ _ _ hx2 hx3 (fun z => c16 (w10.mpr z)) (fun z => c26 (w11.mpr z)) gm hA1 hb1 hb18 h24 h89 hC1 hw1 hov hop hu1 ha hR
      · refine r_aload_n (dc kc_X12_readNode_0 13 rfl) rfl <| k_j (dc kc_X12_readNode_0 14 rfl) kj_X12_218 rfl (a := 464660) (by decide) <| c_v1r (dc kc_X12_readNode_0 15 rfl) cl_X12_220 rfl (Nat.le_of_ble_eq_true rfl) (Nat.zero_le _) (Nat.zero_le _) <| t_isWord <| s_if_eqb (tgt := 44) (dc kc_X12_readNode_0 16 rfl) rfl (fun c36 => (k_b (dc kc_X12_readNode_0 19 rfl) rfl <| ?_)) (fun c36 => (k_b (dc kc_X12_readNode_0 17 rfl) rfl <| s_goto (tgt := 46) (dc kc_X12_readNode_0 18 rfl) rfl <| ?_))
        · exact go 7 (Or.inr ⟨rfl, w11.mp c26⟩)
        · exfalso; exact c16 c36
  refine k_i (dc kc_X12_readNode_0 0 rfl) rfl <| t_i1 (dc kc_X12_readNode_0 1 rfl) (Nat.le_of_ble_eq_true rfl) rfl <| ?_
  refine loop _ mi f u [] 0 _ _ _ rfl rfl (Nat.le_refl _) Ch.rf hA (by simp; exact hb) (by simp; exact hb8) rfl rfl hC (by simp; exact hw) Arr.nil (fun x hx => by cases hx) (Int.le_refl _) (by omega) ?_
  rw [← hs0]
  have e1 : b + (([] : List Int).length : Int) = b := by simp
  rw [e1]
  exact Rh.rf
theorem t_readNodeD (hL : Lay G mr) {mi : MI} {C0 p z : Int} (hD : DXz t N z mi p) (hQ : ∀ m', Ch (pPr C0) mi m' → DXz t N z m' p → m' 0 80 24 = mi 0 80 24 → Q (vX 0) m' n mr) : Tx (d+6) mt_X12_readNode [vR (some (0, 80))] mi n mr Q := by
  refine tx_intro (ls := [vR (some (0, 80)), vX 0, vX 0, vX 0, vX 0]) om_X12_readNode rfl (Nat.le_of_ble_eq_true rfl) ?_
  refine k_i (dc kc_X12_readNode_0 0 rfl) rfl <| t_i1 (dc kc_X12_readNode_0 1 rfl) (Nat.le_of_ble_eq_true rfl) rfl <| ?_
  exact t_node2D hL rfl rfl 0 mi p Ch.rf hD hQ
end RND
