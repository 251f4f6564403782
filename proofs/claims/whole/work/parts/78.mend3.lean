/-! the class: which cells a mend must change; whether laws hold -/
theorem upR_same {mr : MR} {g j : Nat} {k : Int} {v : Option Ad} (h : mr g j k = v) : upR mr g j k v = mr := by
  funext a b c
  by_cases e : (a, b, c) = (g, j, k)
  · injection e with e1 e2
    injection e2 with e2 e3
    subst e1; subst e2; subst e3
    rw [upR_at, h]
  · exact upR_off a b c e
/-- the laws in a text -/
def MLw (mi : MI) (x : Nat) (ρ : Int → Int) : Prop := mi x 20 0 = ρ 16 ∧ (0 ≤ ρ 16 ∧ ρ 16 ≤ 12) ∧ ∀ l, 0 ≤ l → l < ρ 16 → LwT mi x l (lawC ρ l)
theorem MLw.mv {mi mi' : MI} {x : Nat} {ρ : Int → Int} (h : MLw mi x ρ) (e20 : mi' x 20 0 = mi x 20 0) (e21 : mi' x 21 = mi x 21) (e22 : mi' x 22 = mi x 22) (e25 : mi' x 25 = mi x 25) : MLw mi' x ρ := by
  refine ⟨by rw [e20]; exact h.1, h.2.1, fun l a b => ?_⟩
  unfold LwT
  rw [e21, e22, e25]
  exact h.2.2 l a b
def AskB (mi : MI) (D : Nat) (ρ : Int → Int) (A : List PR) (N : Int) : Prop := ∀ l, 0 ≤ l → l < N → Bm (mi D 68 l) (askA (clR (rowA ρ A)) (lawC ρ l))
def Brk (ρ : Int → Int) (A : List PR) (l : Int) : Prop := 0 ≤ l ∧ l < ρ 16 ∧ valA (clR (rowA ρ A)) (lawC ρ l) = 0
def pTr (D a b : Nat) (k : Int) : Bool := pQ 2 a b k || (a == D && b == 68)
/-- what a mend must change: bits i with i read by a broken law, free -/
def Try (ρ : Int → Int) (A : List PR) (F left m : Int) : Prop := (m = 0 ∧ ∀ l, ¬ Brk ρ A l) ∨ (left = 1 ∧ ∀ i : Nat, i < 32 → (tB m i = true ↔ ∀ l, Brk ρ A l → (i : Int) ∈ askA (clR (rowA ρ A)) (lawC ρ l) ∧ tB F i = false)) ∨ (left ≠ 1 ∧ ∃ l, Brk ρ A l ∧ ∀ i : Nat, i < 32 → (tB m i = true ↔ (i : Int) ∈ askA (clR (rowA ρ A)) (lawC ρ l) ∧ tB F i = false))
def Few (ρ : Int → Int) (A : List PR) (F : Int) (i fe fc : Int) : Prop := (fc = 25 ∧ ∀ l, l < i → ¬ Brk ρ A l) ∨ (0 ≤ fc ∧ fc ≤ 24 ∧ ∃ l, l < i ∧ Brk ρ A l ∧ ∀ j : Nat, j < 32 → (tB fe j = true ↔ (j : Int) ∈ askA (clR (rowA ρ A)) (lawC ρ l) ∧ tB F j = false))
def Com (ρ : Int → Int) (A : List PR) (F : Int) (i co : Int) : Prop := ∀ j : Nat, j < 32 → (tB co j = true ↔ ∀ l, l < i → Brk ρ A l → (j : Int) ∈ askA (clR (rowA ρ A)) (lawC ρ l) ∧ tB F j = false)
theorem Few.rg {ρ : Int → Int} {A : List PR} {F i fe fc : Int} (h : Few ρ A F i fe fc) : 0 ≤ fc ∧ fc ≤ 25 := by
  rcases h with h | h
  · have := h.1; omega
  · have := h.1; have := h.2.1; omega
theorem Few.old {ρ : Int → Int} {A : List PR} {F i fe fc : Int} (h : Few ρ A F i fe fc) (hb : Brk ρ A i → fc ≠ 25) : Few ρ A F (i + 1) fe fc := by
  rcases h with h | ⟨h1, h2, l, h3, h4⟩
  · left
    refine ⟨h.1, fun l hl hB => ?_⟩
    by_cases e : l = i
    · subst e; exact hb hB h.1
    · exact h.2 l (by omega) hB
  · exact Or.inr ⟨h1, h2, l, by omega, h4⟩
theorem Com.old {ρ : Int → Int} {A : List PR} {F i co : Int} (h : Com ρ A F i co) (hb : ¬ Brk ρ A i) : Com ρ A F (i + 1) co := fun j hj => by
  rw [h j hj]
  constructor
  · intro z l hl hB
    by_cases e : l = i
    · subst e; exact absurd hB hb
    · exact z l (by omega) hB
  · intro z l hl hB
    exact z l (by omega) hB
section MD2
variable {d n G : Nat} {mr : MR} {Q : V → MI → Nat → MR → Prop}
theorem u_cellsToTry (hL : Lay G mr) {mi : MI} {x D : Nat} {ρ : Int → Int} {A : List PR} {F sz : Int} (hcel : mr 2 50 0 = some (0, 63)) (hmlw : mr 0 60 4 = some (x, 20)) (hx : okI G 20 x) (hD : D < 3) (hs : mi 0 60 9 = sz) (hs3 : 0 ≤ sz ∧ sz ≤ 3) (hV : VC (clR (rowA ρ A))) (hM : MLw mi x ρ) (hA : ag (clR (rowA ρ A)) (clM mi 0)) (hQ : ∀ mi' m, Cg (pTr D) mi mi' → AskB mi' D ρ A (ρ 16) → Try ρ A F (sz - D) m → (∃ l, Brk ρ A l) ∨ m = 0 → Q (vI m) mi' n mr) : Tx (d+4) mt_X4_cellsToTry [vR (some (0, 60)), vI (D : Int), vI F] mi n mr Q := by
  have hok : okI G 20 x := hx
  have hN := hM.2.1
  have haa : mr 0 67 (D : Int) = some (D, 68) := by
    have : D = 0 ∨ D = 1 ∨ D = 2 := by omega
    rcases this with rfl | rfl | rfl
    · exact ly_67_0 hL
    · exact ly_67_1 hL
    · exact ly_67_2 hL
  have hlaw : ∀ l, 0 ≤ l → l < ρ 16 → Law (lawC ρ l) := fun l a b => (hM.2.2 l a b).2.2.2.2
  have h24 : ∀ l, 0 ≤ l → l < ρ 16 → ∀ y ∈ askA (clR (rowA ρ A)) (lawC ρ l), 0 ≤ y ∧ y < 24 := fun l a b => (law_ev hV (hlaw l a b)).2.2
  refine tx_intro (ls := [vR (some (0, 60)), vI (D : Int), vI F, vX 0, vX 0, vX 0, vX 0, vX 0, vX 0, vX 0]) om_X4_cellsToTry rfl (Nat.le_of_ble_eq_true rfl) ?_
  have loop : ∀ i : Nat, i ≤ (ρ 16).toNat → ∀ (m : MI) (co fe fc : Int) (x8 x9 : V), Cg (pTr D) mi m → AskB m D ρ A i → Com ρ A F i co → Few ρ A F i fe fc → Run (d+4) mt_X4_cellsToTry Q (n, mr, 0, 0) m 20 [vR (some (0, 60)), vI (D : Int), vI F, vI (sz - D), vI co, vI fe, vI fc, vI (i : Int), x8, x9] [] := by
    refine nloop ?_
    intro i hi ih m co fe fc x8 x9 hC hAs hco hfe
    have hfr := hfe.rg
    have e20 : m x 20 0 = ρ 16 := by rw [hC.at (by simp [pTr, pQ]), hM.1]
    by_cases he : (i : Int) < ρ 16
    · have hM' : MLw m x ρ := hM.mv (hC.at (by simp [pTr, pQ])) (hC.row (fun k => by simp [pTr, pQ])) (hC.row (fun k => by simp [pTr, pQ])) (hC.row (fun k => by simp [pTr, pQ]))
      refine s_iload (dc kc_X4_cellsToTry_0 13 rfl) rfl <| r_aload_n (dc kc_X4_cellsToTry_0 14 rfl) rfl <| s_getO (dc kc_X4_cellsToTry_0 15 rfl) fl_X4_35 hmlw <| s_getI (dc kc_X4_cellsToTry_0 16 rfl) fl_X4_140 <| s_icmp_ge (tgt := 144) (dc kc_X4_cellsToTry_0 17 rfl) rfl (fun c29 => (?_)) (fun c29 => (r_aload_n (dc kc_X4_cellsToTry_0 18 rfl) rfl <| s_getO (dc kc_X4_cellsToTry_0 19 rfl) fl_X4_12 (ly_60_0 hL) <| r_aload_n (dc kc_X4_cellsToTry_0 20 rfl) rfl <| s_getA (dc kc_X4_cellsToTry_0 21 rfl) fl_X4_39 (ly_60_5 hL) <| c_v1 (dc kc_X4_cellsToTry_0 22 rfl) cl_X4_113 rfl (Nat.le_of_ble_eq_true rfl) (Nat.zero_le _) (Nat.zero_le _) ?_))
      · exfalso; omega
      · refine u_rbegin ?_
        rw [upR_same hcel]
        have g1 : Cg (pTr D) mi (up (up m 2 50 3 0) 2 50 4 0) := (hC.up (by simp [pTr, pQ])).up (by simp [pTr, pQ])
        have b1 : Bm (up (up m 2 50 3 0) 2 50 4 0 2 50 3) [] := by rw [up_k (by decide), up_at]; exact Bm.nil
        have l1 : MLw (up (up m 2 50 3 0) 2 50 4 0) x ρ := hM'.mv (by rw [up_j (by decide), up_j (by decide)]) (by rw [up_j (by decide), up_j (by decide)]) (by rw [up_j (by decide), up_j (by decide)]) (by rw [up_j (by decide), up_j (by decide)])
        have a1 : AskB (up (up m 2 50 3 0) 2 50 4 0) D ρ A i := fun l a b => by rw [up_j (by decide), up_j (by decide)]; exact hAs l a b
        generalize up (up m 2 50 3 0) 2 50 4 0 = m1 at *
        refine r_aload_n (dc kc_X4_cellsToTry_0 23 rfl) rfl <| s_getO (dc kc_X4_cellsToTry_0 24 rfl) fl_X4_12 (ly_60_0 hL) <| r_aload_n (dc kc_X4_cellsToTry_0 25 rfl) rfl <| s_getO (dc kc_X4_cellsToTry_0 26 rfl) fl_X4_35 hmlw <| r_aload_n (dc kc_X4_cellsToTry_0 27 rfl) rfl <| s_getO (dc kc_X4_cellsToTry_0 28 rfl) fl_X4_35 hmlw <| s_getA (dc kc_X4_cellsToTry_0 29 rfl) fl_X4_143 (ly_20_3 hL (by assumption)) <| s_iload (dc kc_X4_cellsToTry_0 30 rfl) rfl <| s_iaload (dc kc_X4_cellsToTry_0 31 rfl) rfl (by first | omega | (simp [up] <;> omega)) (by first | omega | (simp [up] <;> omega)) <| r_aload_n (dc kc_X4_cellsToTry_0 32 rfl) rfl <| s_getO (dc kc_X4_cellsToTry_0 33 rfl) fl_X4_35 hmlw <| s_getA (dc kc_X4_cellsToTry_0 34 rfl) fl_X4_146 (ly_20_6 hL (by assumption)) <| s_iload (dc kc_X4_cellsToTry_0 35 rfl) rfl <| s_iaload (dc kc_X4_cellsToTry_0 36 rfl) rfl (by first | omega | (simp [up] <;> omega)) (by first | omega | (simp [up] <;> omega)) <| c_v3r (dc kc_X4_cellsToTry_0 37 rfl) cl_X4_149 rfl (Nat.le_of_ble_eq_true rfl) (Nat.zero_le _) (Nat.zero_le _) ?_
        have c1 : ag (clR (rowA ρ A)) (clM m1 0) := fun c a b => by show m1 0 63 c = _; rw [g1.at (by simp [pTr, pQ])]; exact hA c a b
        have hk := l1.2.2 i (by omega) he
        refine mu_runL hL (by decide) hx hcel (hV.ag c1) hk b1 (fun m2 g2 b2 _ => ?_)
        rw [askA_ag hV c1 hk.2.2.2.2, List.append_nil] at b2
        rw [valA_ag hV c1 hk.2.2.2.2]
        have g12 : Cg (pTr D) mi m2 := g1.tr (g2.mono (fun a b k z => by simp [pTr, z]))
        have a2 : AskB m2 D ρ A i := fun l a b => by rw [g2.at (by simp [pQ])]; exact a1 l a b
        refine t_i8 (dc kc_X4_cellsToTry_0 38 rfl) (Nat.le_of_ble_eq_true rfl) rfl <| r_aload_n (dc kc_X4_cellsToTry_0 39 rfl) rfl <| s_getA (dc kc_X4_cellsToTry_1 0 rfl) fl_X4_62 (ly_60_12 hL) <| s_iload_n (dc kc_X4_cellsToTry_1 1 rfl) rfl <| s_aaload (dc kc_X4_cellsToTry_1 2 rfl) rfl (by decide) (by first | omega | (simp [up] <;> omega)) (by first | omega | (simp [up] <;> omega)) haa <| s_iload (dc kc_X4_cellsToTry_1 3 rfl) rfl <| r_aload_n (dc kc_X4_cellsToTry_1 4 rfl) rfl <| s_getO (dc kc_X4_cellsToTry_1 5 rfl) fl_X4_12 (ly_60_0 hL) <| s_getI (dc kc_X4_cellsToTry_1 6 rfl) fl_X4_153 <| s_iastore (dc kc_X4_cellsToTry_1 7 rfl) rfl (by first | omega | (simp [up] <;> omega)) (by first | omega | (simp [up] <;> omega)) <| ?_
        have g3 : Cg (pTr D) mi (up m2 D 68 i (m2 2 50 3)) := g12.up (by simp [pTr])
        have a3 : AskB (up m2 D 68 i (m2 2 50 3)) D ρ A ((i : Int) + 1) := fun l a b => by
          by_cases e : l = i
          · subst e; rw [up_at]; exact b2
          · rw [up_k e]; exact a2 l a (by omega)
        have b3 : Bm (up m2 D 68 i (m2 2 50 3) 2 50 3) (askA (clR (rowA ρ A)) (lawC ρ i)) := by rw [up_j (by decide)]; exact b2
        generalize up m2 D 68 i (m2 2 50 3) = m3 at *
        have h01 := (law_ev hV hk.2.2.2.2).2.1
        have ih := ih (by omega)
        generalize hvl : valA (clR (rowA ρ A)) (lawC ρ i) = vl at *
        refine s_iload (dc kc_X4_cellsToTry_1 8 rfl) rfl <| s_if_ne (tgt := 138) (dc kc_X4_cellsToTry_1 9 rfl) rfl (fun c94 => (b_inc7 (dc kc_X4_cellsToTry_1 31 rfl) rfl (Nat.le_of_ble_eq_true rfl) rfl (by first | omega | (simp [up] <;> omega)) (by first | omega | (simp [up] <;> omega)) <| s_goto (tgt := 20) (dc kc_X4_cellsToTry_1 32 rfl) rfl <| ?_)) (fun c94 => (r_aload_n (dc kc_X4_cellsToTry_1 10 rfl) rfl <| s_getO (dc kc_X4_cellsToTry_1 11 rfl) fl_X4_12 (ly_60_0 hL) <| s_getI (dc kc_X4_cellsToTry_1 12 rfl) fl_X4_153 <| s_iload_n (dc kc_X4_cellsToTry_1 13 rfl) rfl <| k_i (dc kc_X4_cellsToTry_1 14 rfl) rfl <| s_ixor (dc kc_X4_cellsToTry_1 15 rfl) <| s_iand (dc kc_X4_cellsToTry_1 16 rfl) <| t_i9 (dc kc_X4_cellsToTry_1 17 rfl) (Nat.le_of_ble_eq_true rfl) rfl <| ?_))
        · refine ih m3 co fe fc _ _ g3 a3 (hco.old (fun z => by have := z.2.2; omega)) (hfe.old (fun z => by have := z.2.2; omega))
        · have hbk : Brk ρ A i := ⟨by omega, he, by rw [hvl]; assumption⟩
          have hop : ∀ j : Nat, j < 32 → (tB (bAnd (m3 2 50 3) (bXor F (-1))) j = true ↔ (j : Int) ∈ askA (clR (rowA ρ A)) (lawC ρ i) ∧ tB F j = false) := fun j hj => by
            rw [tB_and, tB_xor, tB_m1 hj, Bool.and_eq_true, b3.2 j hj]
            simp
          have hbc := bcF_24' (x := bAnd (m3 2 50 3) (bXor F (-1))) (bAnd_rg _ _) (fun j h1 h2 => by
            cases e : tB (bAnd (m3 2 50 3) (bXor F (-1))) j with
            | false => rfl
            | true => have := h24 i (by omega) he _ ((hop j h2).mp e).1; omega)
          generalize bAnd (m3 2 50 3) (bXor F (-1)) = op at *
          have hco' : Com ρ A F ((i : Int) + 1) (bAnd co op) := fun j hj => by
            rw [tB_and, Bool.and_eq_true, hco j hj, hop j hj]
            constructor
            · rintro ⟨z1, z2⟩ l hl hB
              by_cases e : l = i
              · subst e; exact z2
              · exact z1 l (by omega) hB
            · intro z
              exact ⟨fun l hl hB => z l (by omega) hB, z i (by omega) hbk⟩
          refine s_iload (dc kc_X4_cellsToTry_1 18 rfl) rfl <| s_iload (dc kc_X4_cellsToTry_1 19 rfl) rfl <| s_iand (dc kc_X4_cellsToTry_1 20 rfl) <| t_i4 (dc kc_X4_cellsToTry_1 21 rfl) (Nat.le_of_ble_eq_true rfl) rfl <| s_iload (dc kc_X4_cellsToTry_1 22 rfl) rfl <| c_s1r (dc kc_X4_cellsToTry_1 23 rfl) cl_X4_156 rfl (Nat.le_of_ble_eq_true rfl) (Nat.zero_le _) (Nat.zero_le _) ?_
          refine u_bitCount ?_
          refine s_iload (dc kc_X4_cellsToTry_1 24 rfl) rfl <| s_icmp_ge (tgt := 138) (dc kc_X4_cellsToTry_1 25 rfl) rfl (fun c124 => (b_inc7 (dc kc_X4_cellsToTry_1 31 rfl) rfl (Nat.le_of_ble_eq_true rfl) rfl (by first | omega | (simp [up] <;> omega)) (by first | omega | (simp [up] <;> omega)) <| s_goto (tgt := 20) (dc kc_X4_cellsToTry_1 32 rfl) rfl <| ?_)) (fun c124 => (?_))
          · refine ih m3 _ fe fc _ _ g3 a3 hco' (hfe.old (fun _ => by omega))
          · refine s_iload (dc kc_X4_cellsToTry_1 26 rfl) rfl <| t_i5 (dc kc_X4_cellsToTry_1 27 rfl) (Nat.le_of_ble_eq_true rfl) rfl <| s_iload (dc kc_X4_cellsToTry_1 28 rfl) rfl <| c_s1r (dc kc_X4_cellsToTry_1 29 rfl) cl_X4_156 rfl (Nat.le_of_ble_eq_true rfl) (Nat.zero_le _) (Nat.zero_le _) ?_
            refine u_bitCount ?_
            refine t_i6 (dc kc_X4_cellsToTry_1 30 rfl) (Nat.le_of_ble_eq_true rfl) rfl <| b_inc7 (dc kc_X4_cellsToTry_1 31 rfl) rfl (Nat.le_of_ble_eq_true rfl) rfl (by first | omega | (simp [up] <;> omega)) (by first | omega | (simp [up] <;> omega)) <| s_goto (tgt := 20) (dc kc_X4_cellsToTry_1 32 rfl) rfl <| ?_
            exact ih m3 _ op _ _ _ g3 a3 hco' (Or.inr ⟨hbc.1, hbc.2, i, by omega, hbk, hop⟩)
    · have hi2 : ∀ l, Brk ρ A l → l < (i : Int) := fun l z => by have := z.2.1; omega
      have hAs' : AskB m D ρ A (ρ 16) := fun l a b => hAs l a (by omega)
      refine s_iload (dc kc_X4_cellsToTry_0 13 rfl) rfl <| r_aload_n (dc kc_X4_cellsToTry_0 14 rfl) rfl <| s_getO (dc kc_X4_cellsToTry_0 15 rfl) fl_X4_35 hmlw <| s_getI (dc kc_X4_cellsToTry_0 16 rfl) fl_X4_140 <| s_icmp_ge (tgt := 144) (dc kc_X4_cellsToTry_0 17 rfl) rfl (fun c29 => (?_)) (fun c29 => (?_))
      · rcases hfe with ⟨f1, f2⟩ | ⟨f1, f2, l, f3, f4, f5⟩
        · have hno : ∀ l, ¬ Brk ρ A l := fun l z => f2 l (hi2 l z) z
          refine s_iload (dc kc_X4_cellsToTry_1 33 rfl) rfl <| k_b (dc kc_X4_cellsToTry_1 34 rfl) rfl <| s_icmp_le (tgt := 153) (dc kc_X4_cellsToTry_1 35 rfl) rfl (fun c148 => (s_iload_n (dc kc_X4_cellsToTry_1 38 rfl) rfl <| k_i (dc kc_X4_cellsToTry_1 39 rfl) rfl <| s_icmp_ne (tgt := 163) (dc kc_X4_cellsToTry_2 0 rfl) rfl (fun c155 => (s_iload (dc kc_X4_cellsToTry_2 3 rfl) rfl <| s_ireturn (dc kc_X4_cellsToTry_2 4 rfl) rfl (Nat.zero_le _) (Nat.zero_le _) ?_)) (fun c155 => (s_iload (dc kc_X4_cellsToTry_2 1 rfl) rfl <| s_goto (tgt := 165) (dc kc_X4_cellsToTry_2 2 rfl) rfl <| s_ireturn (dc kc_X4_cellsToTry_2 4 rfl) rfl (Nat.zero_le _) (Nat.zero_le _) ?_)))) (fun c148 => (k_i (dc kc_X4_cellsToTry_1 36 rfl) rfl <| s_ireturn (dc kc_X4_cellsToTry_1 37 rfl) rfl (Nat.zero_le _) (Nat.zero_le _) ?_))
          · exfalso; omega
          · exfalso; omega
          · exact hQ m 0 hC hAs' (Or.inl ⟨rfl, hno⟩) (Or.inr rfl)
        · refine s_iload (dc kc_X4_cellsToTry_1 33 rfl) rfl <| k_b (dc kc_X4_cellsToTry_1 34 rfl) rfl <| s_icmp_le (tgt := 153) (dc kc_X4_cellsToTry_1 35 rfl) rfl (fun c148 => (s_iload_n (dc kc_X4_cellsToTry_1 38 rfl) rfl <| k_i (dc kc_X4_cellsToTry_1 39 rfl) rfl <| s_icmp_ne (tgt := 163) (dc kc_X4_cellsToTry_2 0 rfl) rfl (fun c155 => (s_iload (dc kc_X4_cellsToTry_2 3 rfl) rfl <| s_ireturn (dc kc_X4_cellsToTry_2 4 rfl) rfl (Nat.zero_le _) (Nat.zero_le _) ?_)) (fun c155 => (s_iload (dc kc_X4_cellsToTry_2 1 rfl) rfl <| s_goto (tgt := 165) (dc kc_X4_cellsToTry_2 2 rfl) rfl <| s_ireturn (dc kc_X4_cellsToTry_2 4 rfl) rfl (Nat.zero_le _) (Nat.zero_le _) ?_)))) (fun c148 => (k_i (dc kc_X4_cellsToTry_1 36 rfl) rfl <| s_ireturn (dc kc_X4_cellsToTry_1 37 rfl) rfl (Nat.zero_le _) (Nat.zero_le _) ?_))
          · exact hQ m fe hC hAs' (Or.inr (Or.inr ⟨by assumption, l, f4, f5⟩)) (Or.inl ⟨l, f4⟩)
          · refine hQ m co hC hAs' (Or.inr (Or.inl ⟨by assumption, fun j hj => ?_⟩)) (Or.inl ⟨l, f4⟩)
            rw [hco j hj]
            exact ⟨fun z l hB => z l (hi2 l hB) hB, fun z l _ hB => z l hB⟩
          · exfalso; omega
      · exfalso; omega
  refine r_aload_n (dc kc_X4_cellsToTry_0 0 rfl) rfl <| s_getI (dc kc_X4_cellsToTry_0 1 rfl) fl_X4_51 <| s_iload_n (dc kc_X4_cellsToTry_0 2 rfl) rfl <| b_isub (dc kc_X4_cellsToTry_0 3 rfl) (by first | omega | (simp [up] <;> omega)) (by first | omega | (simp [up] <;> omega)) <| t_i3 (dc kc_X4_cellsToTry_0 4 rfl) (Nat.le_of_ble_eq_true rfl) rfl <| k_i (dc kc_X4_cellsToTry_0 5 rfl) rfl <| t_i4 (dc kc_X4_cellsToTry_0 6 rfl) (Nat.le_of_ble_eq_true rfl) rfl <| k_i (dc kc_X4_cellsToTry_0 7 rfl) rfl <| t_i5 (dc kc_X4_cellsToTry_0 8 rfl) (Nat.le_of_ble_eq_true rfl) rfl <| k_b (dc kc_X4_cellsToTry_0 9 rfl) rfl <| t_i6 (dc kc_X4_cellsToTry_0 10 rfl) (Nat.le_of_ble_eq_true rfl) rfl <| k_i (dc kc_X4_cellsToTry_0 11 rfl) rfl <| t_i7 (dc kc_X4_cellsToTry_0 12 rfl) (Nat.le_of_ble_eq_true rfl) rfl <| ?_
  rw [hs]
  refine loop 0 (Nat.zero_le _) mi _ _ _ _ _ Cg.rf (fun l a b => by omega) (fun j hj => ?_) (Or.inl ⟨rfl, fun l hl z => by have := z.1; omega⟩)
  rw [tB_m1 hj]
  exact ⟨fun _ l hl z => by have := z.1; omega, fun _ => rfl⟩
theorem u_holdsWith (hL : Lay G mr) {mi : MI} {x D : Nat} {ρ : Int → Int} {A B : List PR} {c : Int} (hcel : mr 2 50 0 = some (0, 63)) (hmlw : mr 0 60 4 = some (x, 20)) (hx : okI G 20 x) (hD : D < 3) (hc0 : 0 ≤ c) (hc1 : c < 24) (hV : VC (clR (rowA ρ B))) (hM : MLw mi x ρ) (hA : ag (clR (rowA ρ B)) (clM mi 0)) (hB : AskB mi D ρ A (ρ 16)) (hQ1 : (∀ l, 0 ≤ l → l < ρ 16 → c ∈ askA (clR (rowA ρ A)) (lawC ρ l) → valA (clR (rowA ρ B)) (lawC ρ l) = 1) → ∀ mi', Cg (pQ 2) mi mi' → Q (vI 1) mi' n mr) (hQ0 : (∃ l, Brk ρ B l) → ∀ mi', Cg (pQ 2) mi mi' → Q (vI 0) mi' n mr) : Tx (d+4) mt_X4_holdsWith [vR (some (0, 60)), vI (D : Int), vI c] mi n mr Q := by
  have hok : okI G 20 x := hx
  have hN := hM.2.1
  have haa : mr 0 67 (D : Int) = some (D, 68) := by
    have : D = 0 ∨ D = 1 ∨ D = 2 := by omega
    rcases this with rfl | rfl | rfl
    · exact ly_67_0 hL
    · exact ly_67_1 hL
    · exact ly_67_2 hL
  refine tx_intro (ls := [vR (some (0, 60)), vI (D : Int), vI c, vX 0, vX 0]) om_X4_holdsWith rfl (Nat.le_of_ble_eq_true rfl) ?_
  have loop : ∀ i : Nat, i ≤ (ρ 16).toNat → ∀ (m : MI) (L : List Int) (x4 : V), Cg (pQ 2) mi m → Bm (m 2 50 3) L → (∀ l, 0 ≤ l → l < (i : Int) → c ∈ askA (clR (rowA ρ A)) (lawC ρ l) → valA (clR (rowA ρ B)) (lawC ρ l) = 1) → Run (d+4) mt_X4_holdsWith Q (n, mr, 0, 0) m 13 [vR (some (0, 60)), vI (D : Int), vI c, vI (i : Int), x4] [] := by
    refine nloop ?_
    intro i hi ih m L x4 hC hBm hh
    have e20 : m x 20 0 = ρ 16 := by rw [hC.at (by simp [pQ]), hM.1]
    by_cases he : (i : Int) < ρ 16
    · have hM' : MLw m x ρ := hM.mv (hC.at (by simp [pQ])) (hC.row (fun k => by simp [pQ])) (hC.row (fun k => by simp [pQ])) (hC.row (fun k => by simp [pQ]))
      have hk := hM'.2.2 i (by omega) he
      have c1 : ag (clR (rowA ρ B)) (clM m 0) := fun c a b => by show m 0 63 c = _; rw [hC.at (by simp [pQ])]; exact hA c a b
      have h01 := (law_ev hV hk.2.2.2.2).2.1
      have hbit : bAnd (bShr (m D 68 i) c) 1 = 1 ↔ c ∈ askA (clR (rowA ρ A)) (lawC ρ i) := by
        rw [hC.at (by simp [pQ])]
        exact (hB i (by omega) he).bit1 hc0 (by omega)
      have ih := ih (by omega)
      refine s_iload_n (dc kc_X4_holdsWith_0 7 rfl) rfl <| r_aload_n (dc kc_X4_holdsWith_0 8 rfl) rfl <| s_getO (dc kc_X4_holdsWith_0 9 rfl) fl_X4_35 hmlw <| s_getI (dc kc_X4_holdsWith_0 10 rfl) fl_X4_140 <| s_icmp_ge (tgt := 92) (dc kc_X4_holdsWith_0 11 rfl) rfl (fun c21 => (?_)) (fun c21 => (r_aload_n (dc kc_X4_holdsWith_0 12 rfl) rfl <| s_getA (dc kc_X4_holdsWith_0 13 rfl) fl_X4_62 (ly_60_12 hL) <| s_iload_n (dc kc_X4_holdsWith_0 14 rfl) rfl <| s_aaload (dc kc_X4_holdsWith_0 15 rfl) rfl (by decide) (by first | omega | (simp [up] <;> omega)) (by first | omega | (simp [up] <;> omega)) haa <| s_iload_n (dc kc_X4_holdsWith_0 16 rfl) rfl <| s_iaload (dc kc_X4_holdsWith_0 17 rfl) rfl (by first | omega | (simp [up] <;> omega)) (by first | omega | (simp [up] <;> omega)) <| s_iload_n (dc kc_X4_holdsWith_0 18 rfl) rfl <| s_ishr (dc kc_X4_holdsWith_0 19 rfl) <| k_i (dc kc_X4_holdsWith_0 20 rfl) rfl <| s_iand (dc kc_X4_holdsWith_0 21 rfl) <| k_i (dc kc_X4_holdsWith_0 22 rfl) rfl <| s_icmp_ne (tgt := 44) (dc kc_X4_holdsWith_0 23 rfl) rfl (fun c37 => (k_i (dc kc_X4_holdsWith_0 26 rfl) rfl <| t_i4 (dc kc_X4_holdsWith_0 27 rfl) (Nat.le_of_ble_eq_true rfl) rfl <| s_iload (dc kc_X4_holdsWith_0 28 rfl) rfl <| s_if_eq (tgt := 86) (dc kc_X4_holdsWith_0 29 rfl) rfl (fun c49 => (b_inc3 (dc kc_X4_holdsWith_1 8 rfl) rfl (Nat.le_of_ble_eq_true rfl) rfl (by first | omega | (simp [up] <;> omega)) (by first | omega | (simp [up] <;> omega)) <| s_goto (tgt := 13) (dc kc_X4_holdsWith_1 9 rfl) rfl <| ?_)) (fun c49 => (r_aload_n (dc kc_X4_holdsWith_0 30 rfl) rfl <| s_getO (dc kc_X4_holdsWith_0 31 rfl) fl_X4_12 (ly_60_0 hL) <| r_aload_n (dc kc_X4_holdsWith_0 32 rfl) rfl <| s_getO (dc kc_X4_holdsWith_0 33 rfl) fl_X4_35 hmlw <| r_aload_n (dc kc_X4_holdsWith_0 34 rfl) rfl <| s_getO (dc kc_X4_holdsWith_0 35 rfl) fl_X4_35 hmlw <| s_getA (dc kc_X4_holdsWith_0 36 rfl) fl_X4_143 (ly_20_3 hL (by assumption)) <| s_iload_n (dc kc_X4_holdsWith_0 37 rfl) rfl <| s_iaload (dc kc_X4_holdsWith_0 38 rfl) rfl (by first | omega | (simp [up] <;> omega)) (by first | omega | (simp [up] <;> omega)) <| r_aload_n (dc kc_X4_holdsWith_0 39 rfl) rfl <| s_getO (dc kc_X4_holdsWith_1 0 rfl) fl_X4_35 hmlw <| s_getA (dc kc_X4_holdsWith_1 1 rfl) fl_X4_146 (ly_20_6 hL (by assumption)) <| s_iload_n (dc kc_X4_holdsWith_1 2 rfl) rfl <| s_iaload (dc kc_X4_holdsWith_1 3 rfl) rfl (by first | omega | (simp [up] <;> omega)) (by first | omega | (simp [up] <;> omega)) <| c_v3r (dc kc_X4_holdsWith_1 4 rfl) cl_X4_149 rfl (Nat.le_of_ble_eq_true rfl) (Nat.zero_le _) (Nat.zero_le _) ?_)))) (fun c37 => (k_i (dc kc_X4_holdsWith_0 24 rfl) rfl <| s_goto (tgt := 45) (dc kc_X4_holdsWith_0 25 rfl) rfl <| t_i4 (dc kc_X4_holdsWith_0 27 rfl) (Nat.le_of_ble_eq_true rfl) rfl <| s_iload (dc kc_X4_holdsWith_0 28 rfl) rfl <| s_if_eq (tgt := 86) (dc kc_X4_holdsWith_0 29 rfl) rfl (fun c49 => (b_inc3 (dc kc_X4_holdsWith_1 8 rfl) rfl (Nat.le_of_ble_eq_true rfl) rfl (by first | omega | (simp [up] <;> omega)) (by first | omega | (simp [up] <;> omega)) <| s_goto (tgt := 13) (dc kc_X4_holdsWith_1 9 rfl) rfl <| ?_)) (fun c49 => (r_aload_n (dc kc_X4_holdsWith_0 30 rfl) rfl <| s_getO (dc kc_X4_holdsWith_0 31 rfl) fl_X4_12 (ly_60_0 hL) <| r_aload_n (dc kc_X4_holdsWith_0 32 rfl) rfl <| s_getO (dc kc_X4_holdsWith_0 33 rfl) fl_X4_35 hmlw <| r_aload_n (dc kc_X4_holdsWith_0 34 rfl) rfl <| s_getO (dc kc_X4_holdsWith_0 35 rfl) fl_X4_35 hmlw <| s_getA (dc kc_X4_holdsWith_0 36 rfl) fl_X4_143 (ly_20_3 hL (by assumption)) <| s_iload_n (dc kc_X4_holdsWith_0 37 rfl) rfl <| s_iaload (dc kc_X4_holdsWith_0 38 rfl) rfl (by first | omega | (simp [up] <;> omega)) (by first | omega | (simp [up] <;> omega)) <| r_aload_n (dc kc_X4_holdsWith_0 39 rfl) rfl <| s_getO (dc kc_X4_holdsWith_1 0 rfl) fl_X4_35 hmlw <| s_getA (dc kc_X4_holdsWith_1 1 rfl) fl_X4_146 (ly_20_6 hL (by assumption)) <| s_iload_n (dc kc_X4_holdsWith_1 2 rfl) rfl <| s_iaload (dc kc_X4_holdsWith_1 3 rfl) rfl (by first | omega | (simp [up] <;> omega)) (by first | omega | (simp [up] <;> omega)) <| c_v3r (dc kc_X4_holdsWith_1 4 rfl) cl_X4_149 rfl (Nat.le_of_ble_eq_true rfl) (Nat.zero_le _) (Nat.zero_le _) ?_))))))
      · exfalso; omega
      · refine ih m L _ hC hBm (fun l a b z => ?_)
        by_cases e : l = i
        · subst e; exact absurd (hbit.mpr z) c37
        · exact hh l a (by omega) z
      · exfalso; omega
      · exfalso; omega
      · have hin := hbit.mp c37
        refine mu_runL hL (by decide) hx hcel (hV.ag c1) hk hBm (fun m2 g2 b2 _ => ?_)
        rw [valA_ag hV c1 hk.2.2.2.2]
        generalize hvl : valA (clR (rowA ρ B)) (lawC ρ i) = vl at *
        refine s_if_ne (tgt := 86) (dc kc_X4_holdsWith_1 5 rfl) rfl (fun c81 => (b_inc3 (dc kc_X4_holdsWith_1 8 rfl) rfl (Nat.le_of_ble_eq_true rfl) rfl (by first | omega | (simp [up] <;> omega)) (by first | omega | (simp [up] <;> omega)) <| s_goto (tgt := 13) (dc kc_X4_holdsWith_1 9 rfl) rfl <| ?_)) (fun c81 => (k_i (dc kc_X4_holdsWith_1 6 rfl) rfl <| s_zreturn (dc kc_X4_holdsWith_1 7 rfl) rfl (by first | exact Or.inl rfl | exact Or.inr rfl | exact bi_01 | assumption) (Nat.zero_le _) (Nat.zero_le _) ?_))
        · refine ih m2 _ _ (hC.tr g2) b2 (fun l a b z => ?_)
          by_cases e : l = i
          · subst e; rw [hvl]; omega
          · exact hh l a (by omega) z
        · exact hQ0 ⟨i, by omega, he, by rw [hvl]; assumption⟩ m2 (hC.tr g2)
    · refine s_iload_n (dc kc_X4_holdsWith_0 7 rfl) rfl <| r_aload_n (dc kc_X4_holdsWith_0 8 rfl) rfl <| s_getO (dc kc_X4_holdsWith_0 9 rfl) fl_X4_35 hmlw <| s_getI (dc kc_X4_holdsWith_0 10 rfl) fl_X4_140 <| s_icmp_ge (tgt := 92) (dc kc_X4_holdsWith_0 11 rfl) rfl (fun c21 => (k_i (dc kc_X4_holdsWith_1 10 rfl) rfl <| s_zreturn (dc kc_X4_holdsWith_1 11 rfl) rfl (by first | exact Or.inl rfl | exact Or.inr rfl | exact bi_01 | assumption) (Nat.zero_le _) (Nat.zero_le _) ?_)) (fun c21 => (?_))
      · exact hQ1 (fun l a b => hh l a (by omega)) m hC
      · exfalso; omega
  refine r_aload_n (dc kc_X4_holdsWith_0 0 rfl) rfl <| s_getO (dc kc_X4_holdsWith_0 1 rfl) fl_X4_12 (ly_60_0 hL) <| r_aload_n (dc kc_X4_holdsWith_0 2 rfl) rfl <| s_getA (dc kc_X4_holdsWith_0 3 rfl) fl_X4_39 (ly_60_5 hL) <| c_v1 (dc kc_X4_holdsWith_0 4 rfl) cl_X4_113 rfl (Nat.le_of_ble_eq_true rfl) (Nat.zero_le _) (Nat.zero_le _) ?_
  refine u_rbegin ?_
  rw [upR_same hcel]
  refine k_i (dc kc_X4_holdsWith_0 5 rfl) rfl <| t_i3 (dc kc_X4_holdsWith_0 6 rfl) (Nat.le_of_ble_eq_true rfl) rfl <| ?_
  exact loop 0 (Nat.zero_le _) _ [] _ ((Cg.rf.up (by simp [pQ])).up (by simp [pQ])) (by rw [up_k (by decide), up_at]; exact Bm.nil) (fun l a b => by omega)
end MD2
