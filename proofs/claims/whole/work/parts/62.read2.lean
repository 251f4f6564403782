/-! the class: its reader applies code -/
theorem bAnd_comm (a b : Int) : bAnd a b = bAnd b a := tB_ext (bAnd_rg _ _) (bAnd_rg _ _) fun i _ => by rw [tB_and, tB_and, Bool.and_comm]
theorem bOr_comm (a b : Int) : bOr a b = bOr b a := tB_ext (bOr_rg _ _) (bOr_rg _ _) fun i _ => by rw [tB_or, tB_or, Bool.or_comm]
section RD2
variable {d n G : Nat} {mr : MR} {Q : V → MI → Nat → MR → Prop}
theorem u_totalOfWay (hL : Lay G mr) {mi : MI} {r g : Nat} (hr : r < 5) (hcel : mr r 50 0 = some (g, 16)) (hc : VC (clG mi g)) {W rd : List Int} (hW : ∀ x ∈ W, 0 ≤ x ∧ x ≤ 5) (hl : W.length ≤ 6) (e6 : mi r 50 6 = W.length) (e7 : mi r 50 7 = msk W) (hA : Arr (mi r 53) W) (hB : Bm (mi r 50 3) rd) (hQ : ∀ mi', Cg (pRd r) mi mi' → Bm (mi' r 50 3) (W.map (fun x => 8 + 3 * x) ++ rd) → Q (vI (sumL (W.map fun x => clG mi g (8 + 3 * x)))) mi' n mr) : Tx (d+1) mt_X6_totalOfWay [vR (some (r, 50))] mi n mr Q := by
  have hok : okI G 50 r := hr
  refine tx_intro (ls := [vR (some (r, 50)), vX 0, vX 0]) om_X6_totalOfWay rfl (Nat.le_of_ble_eq_true rfl) ?_
  have hbm : Bm (bOr (mi r 50 3) (bShl (mi r 50 7) 2)) (W.map (fun x => 8 + 3 * x) ++ rd) := by
    rw [e7]
    refine (hB.or ((msk_Bm (fun x hx => by have := hW x hx; omega)).shl (k := 2) (by decide) (by decide) (fun a ha => by obtain ⟨x, hx, rfl⟩ := List.mem_map.mp ha; have := hW x hx; omega))).mem (fun a a0 a1 => ?_)
    simp
    constructor
    · rintro (h | ⟨x, h1, h2⟩)
      · exact Or.inr h
      · exact Or.inl ⟨x, h1, by omega⟩
    · rintro (⟨x, h1, h2⟩ | h)
      · exact Or.inr ⟨x, h1, by omega⟩
      · exact Or.inl h
  have loop : ∀ i : Nat, i ≤ W.length → ∀ m : MI, Cg (pRd r) mi m → m r 50 3 = bOr (mi r 50 3) (bShl (mi r 50 7) 2) → Run (d+1) mt_X6_totalOfWay Q (n, mr, 0, 0) m 19 [vR (some (r, 50)), vI (sumL ((W.take i).map fun x => clG mi g (8 + 3 * x))), vI (i : Int)] [] := by
    refine nloop ?_
    intro i hi ih m hC e3
    have k6 : m r 50 6 = W.length := by rw [hC.at (by simp [pRd]), e6]
    have k53 : m r 53 = mi r 53 := hC.row (fun k => by simp [pRd])
    have k16 : ∀ x, m g 16 x = mi g 16 x := fun x => by rw [hC.at (by simp [pRd])]
    have hsb := sumL_bd (m := 9) (by decide) ((W.take i).map fun x => clG mi g (8 + 3 * x)) (fun y hy => by
      obtain ⟨x, hx, rfl⟩ := List.mem_map.mp hy
      have := hW x (List.mem_of_mem_take hx)
      have := hc.2.2 x (by omega) (by omega)
      exact ⟨this.2.2.2.2.1, this.2.2.2.2.2⟩)
    rw [List.length_map, List.length_take] at hsb
    by_cases he : i < W.length
    · have hg : W[i]? = some W[i] := List.getElem?_eq_getElem he
      have hx := hW _ (List.getElem_mem he)
      have ex : m r 53 i = W[i] := by rw [k53]; exact hA.at hg
      have hcx := hc.2.2 W[i] (by omega) (by omega)
      have ih := ih he m hC e3
      rw [List.take_add_one, hg] at ih
      have e1 : sumL (List.map (fun x => clG mi g (8 + 3 * x)) (W.take i ++ (some W[i]).toList)) = sumL (List.map (fun x => clG mi g (8 + 3 * x)) (W.take i)) + clG mi g (8 + 3 * W[i]) := by
        show sumL (List.map (fun x => clG mi g (8 + 3 * x)) (W.take i ++ [W[i]])) = _
        rw [List.map_append, List.map_singleton, sumL_snoc]
      rw [e1] at ih
      generalize W[i] = x at *
      have hcx' : 0 ≤ m g 16 (8 + 3 * x) ∧ m g 16 (8 + 3 * x) ≤ 9 := by rw [k16]; exact ⟨hcx.2.2.2.2.1, hcx.2.2.2.2.2⟩
      rw [← ex] at hcx'
      refine s_iload_n (dc kc_X6_totalOfWay 13 rfl) rfl <| r_aload_n (dc kc_X6_totalOfWay 14 rfl) rfl <| s_getI (dc kc_X6_totalOfWay 15 rfl) fl_X6_32 <| s_icmp_ge (tgt := 52) (dc kc_X6_totalOfWay 16 rfl) rfl (fun c24 => (?_)) (fun c24 => (s_iload_n (dc kc_X6_totalOfWay 17 rfl) rfl <| r_aload_n (dc kc_X6_totalOfWay 18 rfl) rfl <| s_getA (dc kc_X6_totalOfWay 19 rfl) fl_X6_9 hcel <| k_b (dc kc_X6_totalOfWay 20 rfl) rfl <| k_i (dc kc_X6_totalOfWay 21 rfl) rfl <| r_aload_n (dc kc_X6_totalOfWay 22 rfl) rfl <| s_getA (dc kc_X6_totalOfWay 23 rfl) fl_X6_29 (ly_50_5 hL (by assumption)) <| s_iload_n (dc kc_X6_totalOfWay 24 rfl) rfl <| s_iaload (dc kc_X6_totalOfWay 25 rfl) rfl (by first | omega | (simp [up] <;> omega)) (by first | omega | (simp [up] <;> omega)) <| b_imul (dc kc_X6_totalOfWay 26 rfl) (by first | omega | (simp [up] <;> omega)) (by first | omega | (simp [up] <;> omega)) <| b_iadd (dc kc_X6_totalOfWay 27 rfl) (by first | omega | (simp [up] <;> omega)) (by first | omega | (simp [up] <;> omega)) <| s_iaload (dc kc_X6_totalOfWay 28 rfl) rfl (by first | omega | (simp [up] <;> omega)) (by first | omega | (simp [up] <;> omega)) <| b_iadd (dc kc_X6_totalOfWay 29 rfl) (by first | omega | (simp [up] <;> omega)) (by first | omega | (simp [up] <;> omega)) <| t_i1 (dc kc_X6_totalOfWay 30 rfl) (Nat.le_of_ble_eq_true rfl) rfl <| b_inc2 (dc kc_X6_totalOfWay 31 rfl) rfl (Nat.le_of_ble_eq_true rfl) rfl (by first | omega | (simp [up] <;> omega)) (by first | omega | (simp [up] <;> omega)) <| s_goto (tgt := 19) (dc kc_X6_totalOfWay 32 rfl) rfl <| ?_))
      · exfalso; omega
      · rw [ex, k16]; exact ih
    · refine s_iload_n (dc kc_X6_totalOfWay 13 rfl) rfl <| r_aload_n (dc kc_X6_totalOfWay 14 rfl) rfl <| s_getI (dc kc_X6_totalOfWay 15 rfl) fl_X6_32 <| s_icmp_ge (tgt := 52) (dc kc_X6_totalOfWay 16 rfl) rfl (fun c24 => (s_iload_n (dc kc_X6_totalOfWay 33 rfl) rfl <| s_ireturn (dc kc_X6_totalOfWay 34 rfl) rfl (Nat.zero_le _) (Nat.zero_le _) ?_)) (fun c24 => (?_))
      · have := hQ m hC (by rw [e3]; exact hbm)
        rw [show i = W.length by omega, List.take_length]
        exact this
      · exfalso; omega
  refine r_aload_n (dc kc_X6_totalOfWay 0 rfl) rfl <| s_dup (dc kc_X6_totalOfWay 1 rfl) rfl <| s_getI (dc kc_X6_totalOfWay 2 rfl) fl_X6_22 <| r_aload_n (dc kc_X6_totalOfWay 3 rfl) rfl <| s_getI (dc kc_X6_totalOfWay 4 rfl) fl_X6_35 <| k_i (dc kc_X6_totalOfWay 5 rfl) rfl <| s_ishl (dc kc_X6_totalOfWay 6 rfl) <| s_ior (dc kc_X6_totalOfWay 7 rfl) <| s_putI (dc kc_X6_totalOfWay 8 rfl) fl_X6_22 <| k_i (dc kc_X6_totalOfWay 9 rfl) rfl <| t_i1 (dc kc_X6_totalOfWay 10 rfl) (Nat.le_of_ble_eq_true rfl) rfl <| k_i (dc kc_X6_totalOfWay 11 rfl) rfl <| t_i2 (dc kc_X6_totalOfWay 12 rfl) (Nat.le_of_ble_eq_true rfl) rfl <| ?_
  exact loop 0 (Nat.zero_le _) _ (Cg.rf.up (by simp [pRd])) up_at
theorem u_isWayTwin (hL : Lay G mr) {mi : MI} {r g : Nat} (hr : r < 5) (hcel : mr r 50 0 = some (g, 16)) (hc : VC (clG mi g)) {W rd : List Int} (hW : ∀ x ∈ W, 0 ≤ x ∧ x ≤ 5) (hl : W.length ≤ 6) (e6 : mi r 50 6 = W.length) (e7 : mi r 50 7 = msk W) (hA : Arr (mi r 53) W) (hB : Bm (mi r 50 3) rd) (hQ : ∀ mi', Cg (pRd r) mi mi' → Bm (mi' r 50 3) (W.map (fun x => 7 + 3 * x) ++ rd) → Q (vI (bi (twin (clG mi g) (-1) W = true))) mi' n mr) : Tx (d+1) mt_X6_isWayTwin [vR (some (r, 50))] mi n mr Q := by
  have hok : okI G 50 r := hr
  refine tx_intro (ls := [vR (some (r, 50)), vX 0, vX 0]) om_X6_isWayTwin rfl (Nat.le_of_ble_eq_true rfl) ?_
  have hbm : Bm (bOr (mi r 50 3) (bShl (mi r 50 7) 1)) (W.map (fun x => 7 + 3 * x) ++ rd) := by
    rw [e7]
    refine (hB.or ((msk_Bm (fun x hx => by have := hW x hx; omega)).shl (k := 1) (by decide) (by decide) (fun a ha => by obtain ⟨x, hx, rfl⟩ := List.mem_map.mp ha; have := hW x hx; omega))).mem (fun a a0 a1 => ?_)
    simp
    constructor
    · rintro (h | ⟨x, h1, h2⟩)
      · exact Or.inr h
      · exact Or.inl ⟨x, h1, by omega⟩
    · rintro (⟨x, h1, h2⟩ | h)
      · exact Or.inr ⟨x, h1, by omega⟩
      · exact Or.inl h
  have loop : ∀ i : Nat, i ≤ W.length → ∀ (m : MI) (p : Int), Cg (pRd r) mi m → m r 50 3 = bOr (mi r 50 3) (bShl (mi r 50 7) 1) → twin (clG mi g) p (W.drop i) = twin (clG mi g) (-1) W → Run (d+1) mt_X6_isWayTwin Q (n, mr, 0, 0) m 19 [vR (some (r, 50)), vI p, vI (i : Int)] [] := by
    refine nloop ?_
    intro i hi ih m p hC e3 hp
    have k6 : m r 50 6 = W.length := by rw [hC.at (by simp [pRd]), e6]
    have k53 : m r 53 = mi r 53 := hC.row (fun k => by simp [pRd])
    have k16 : ∀ x, m g 16 x = mi g 16 x := fun x => by rw [hC.at (by simp [pRd])]
    have hq := hQ m hC (by rw [e3]; exact hbm)
    by_cases he : i < W.length
    · have hg : W[i]? = some W[i] := List.getElem?_eq_getElem he
      have hx := hW _ (List.getElem_mem he)
      have ex : m r 53 i = W[i] := by rw [k53]; exact hA.at hg
      have ih := ih he m W[i] hC e3
      rw [List.drop_eq_getElem_cons he, twin] at hp
      generalize W[i] = x at *
      refine s_iload_n (dc kc_X6_isWayTwin_0 13 rfl) rfl <| r_aload_n (dc kc_X6_isWayTwin_0 14 rfl) rfl <| s_getI (dc kc_X6_isWayTwin_0 15 rfl) fl_X6_32 <| s_icmp_ge (tgt := 62) (dc kc_X6_isWayTwin_0 16 rfl) rfl (fun c24 => (?_)) (fun c24 => (r_aload_n (dc kc_X6_isWayTwin_0 17 rfl) rfl <| s_getA (dc kc_X6_isWayTwin_0 18 rfl) fl_X6_9 hcel <| k_b (dc kc_X6_isWayTwin_0 19 rfl) rfl <| k_i (dc kc_X6_isWayTwin_0 20 rfl) rfl <| r_aload_n (dc kc_X6_isWayTwin_0 21 rfl) rfl <| s_getA (dc kc_X6_isWayTwin_0 22 rfl) fl_X6_29 (ly_50_5 hL (by assumption)) <| s_iload_n (dc kc_X6_isWayTwin_0 23 rfl) rfl <| s_iaload (dc kc_X6_isWayTwin_0 24 rfl) rfl (by first | omega | (simp [up] <;> omega)) (by first | omega | (simp [up] <;> omega)) <| b_imul (dc kc_X6_isWayTwin_0 25 rfl) (by first | omega | (simp [up] <;> omega)) (by first | omega | (simp [up] <;> omega)) <| b_iadd (dc kc_X6_isWayTwin_0 26 rfl) (by first | omega | (simp [up] <;> omega)) (by first | omega | (simp [up] <;> omega)) <| s_iaload (dc kc_X6_isWayTwin_0 27 rfl) rfl (by first | omega | (simp [up] <;> omega)) (by first | omega | (simp [up] <;> omega)) <| s_iload_n (dc kc_X6_isWayTwin_0 28 rfl) rfl <| s_icmp_eq (tgt := 49) (dc kc_X6_isWayTwin_0 29 rfl) rfl (fun c44 => (r_aload_n (dc kc_X6_isWayTwin_0 32 rfl) rfl <| s_getA (dc kc_X6_isWayTwin_0 33 rfl) fl_X6_29 (ly_50_5 hL (by assumption)) <| s_iload_n (dc kc_X6_isWayTwin_0 34 rfl) rfl <| s_iaload (dc kc_X6_isWayTwin_0 35 rfl) rfl (by first | omega | (simp [up] <;> omega)) (by first | omega | (simp [up] <;> omega)) <| t_i1 (dc kc_X6_isWayTwin_0 36 rfl) (Nat.le_of_ble_eq_true rfl) rfl <| b_inc2 (dc kc_X6_isWayTwin_0 37 rfl) rfl (Nat.le_of_ble_eq_true rfl) rfl (by first | omega | (simp [up] <;> omega)) (by first | omega | (simp [up] <;> omega)) <| s_goto (tgt := 19) (dc kc_X6_isWayTwin_0 38 rfl) rfl <| ?_)) (fun c44 => (k_i (dc kc_X6_isWayTwin_0 30 rfl) rfl <| s_zreturn (dc kc_X6_isWayTwin_0 31 rfl) rfl (by first | exact Or.inl rfl | exact Or.inr rfl | exact bi_01 | assumption) (Nat.zero_le _) (Nat.zero_le _) ?_))))
      · exfalso; omega
      · rw [ex, k16] at c44
        rw [ex]
        refine ih ?_
        rw [← hp]
        have : decide (clG mi g (7 + 3 * x) = p) = true := by simp; exact c44
        rw [this, Bool.true_and]
      · rw [ex, k16] at c44
        have : decide (clG mi g (7 + 3 * x) = p) = false := by simp; exact c44
        rw [this, Bool.false_and] at hp
        rw [← hp] at hq
        rw [bi_f (by decide)] at hq
        exact hq
    · refine s_iload_n (dc kc_X6_isWayTwin_0 13 rfl) rfl <| r_aload_n (dc kc_X6_isWayTwin_0 14 rfl) rfl <| s_getI (dc kc_X6_isWayTwin_0 15 rfl) fl_X6_32 <| s_icmp_ge (tgt := 62) (dc kc_X6_isWayTwin_0 16 rfl) rfl (fun c24 => (k_i (dc kc_X6_isWayTwin_0 39 rfl) rfl <| s_zreturn (dc kc_X6_isWayTwin_1 0 rfl) rfl (by first | exact Or.inl rfl | exact Or.inr rfl | exact bi_01 | assumption) (Nat.zero_le _) (Nat.zero_le _) ?_)) (fun c24 => (?_))
      · rw [List.drop_of_length_le (by omega), twin] at hp
        rw [← hp, bi_t rfl] at hq
        exact hq
      · exfalso; omega
  refine r_aload_n (dc kc_X6_isWayTwin_0 0 rfl) rfl <| s_dup (dc kc_X6_isWayTwin_0 1 rfl) rfl <| s_getI (dc kc_X6_isWayTwin_0 2 rfl) fl_X6_22 <| r_aload_n (dc kc_X6_isWayTwin_0 3 rfl) rfl <| s_getI (dc kc_X6_isWayTwin_0 4 rfl) fl_X6_35 <| k_i (dc kc_X6_isWayTwin_0 5 rfl) rfl <| s_ishl (dc kc_X6_isWayTwin_0 6 rfl) <| s_ior (dc kc_X6_isWayTwin_0 7 rfl) <| s_putI (dc kc_X6_isWayTwin_0 8 rfl) fl_X6_22 <| k_i (dc kc_X6_isWayTwin_0 9 rfl) rfl <| t_i1 (dc kc_X6_isWayTwin_0 10 rfl) (Nat.le_of_ble_eq_true rfl) rfl <| k_i (dc kc_X6_isWayTwin_0 11 rfl) rfl <| t_i2 (dc kc_X6_isWayTwin_0 12 rfl) (Nat.le_of_ble_eq_true rfl) rfl <| ?_
  exact loop 0 (Nat.zero_le _) _ (-1) (Cg.rf.up (by simp [pRd])) up_at rfl
theorem u_isWayRising (hL : Lay G mr) {mi : MI} {r g : Nat} (hr : r < 5) (hcel : mr r 50 0 = some (g, 16)) (hc : VC (clG mi g)) {W rd : List Int} (hW : ∀ x ∈ W, 0 ≤ x ∧ x ≤ 5) (hl : W.length ≤ 6) (e6 : mi r 50 6 = W.length) (e7 : mi r 50 7 = msk W) (hA : Arr (mi r 53) W) (hB : Bm (mi r 50 3) rd) (hQ : ∀ mi', Cg (pRd r) mi mi' → Bm (mi' r 50 3) (W.map (fun x => 8 + 3 * x) ++ rd) → Q (vI (bi (rise (clG mi g) 0 W = true))) mi' n mr) : Tx (d+1) mt_X6_isWayRising [vR (some (r, 50))] mi n mr Q := by
  have hok : okI G 50 r := hr
  refine tx_intro (ls := [vR (some (r, 50)), vX 0, vX 0, vX 0]) om_X6_isWayRising rfl (Nat.le_of_ble_eq_true rfl) ?_
  have hbm : Bm (bOr (mi r 50 3) (bShl (mi r 50 7) 2)) (W.map (fun x => 8 + 3 * x) ++ rd) := by
    rw [e7]
    refine (hB.or ((msk_Bm (fun x hx => by have := hW x hx; omega)).shl (k := 2) (by decide) (by decide) (fun a ha => by obtain ⟨x, hx, rfl⟩ := List.mem_map.mp ha; have := hW x hx; omega))).mem (fun a a0 a1 => ?_)
    simp
    constructor
    · rintro (h | ⟨x, h1, h2⟩)
      · exact Or.inr h
      · exact Or.inl ⟨x, h1, by omega⟩
    · rintro (⟨x, h1, h2⟩ | h)
      · exact Or.inr ⟨x, h1, by omega⟩
      · exact Or.inl h
  have loop : ∀ i : Nat, i ≤ W.length → ∀ (m : MI) (p : Int) (x3 : V), Cg (pRd r) mi m → m r 50 3 = bOr (mi r 50 3) (bShl (mi r 50 7) 2) → rise (clG mi g) p (W.drop i) = rise (clG mi g) 0 W → Run (d+1) mt_X6_isWayRising Q (n, mr, 0, 0) m 19 [vR (some (r, 50)), vI p, vI (i : Int), x3] [] := by
    refine nloop ?_
    intro i hi ih m p x3 hC e3 hp
    have k6 : m r 50 6 = W.length := by rw [hC.at (by simp [pRd]), e6]
    have k53 : m r 53 = mi r 53 := hC.row (fun k => by simp [pRd])
    have k16 : ∀ x, m g 16 x = mi g 16 x := fun x => by rw [hC.at (by simp [pRd])]
    have hq := hQ m hC (by rw [e3]; exact hbm)
    by_cases he : i < W.length
    · have hg : W[i]? = some W[i] := List.getElem?_eq_getElem he
      have hx := hW _ (List.getElem_mem he)
      have ex : m r 53 i = W[i] := by rw [k53]; exact hA.at hg
      rw [List.drop_eq_getElem_cons he, rise] at hp
      have ih := ih he m (clG mi g (8 + 3 * W[i]))
      generalize W[i] = x at *
      refine s_iload_n (dc kc_X6_isWayRising 13 rfl) rfl <| r_aload_n (dc kc_X6_isWayRising 14 rfl) rfl <| s_getI (dc kc_X6_isWayRising 15 rfl) fl_X6_32 <| s_icmp_ge (tgt := 59) (dc kc_X6_isWayRising 16 rfl) rfl (fun c24 => (?_)) (fun c24 => (r_aload_n (dc kc_X6_isWayRising 17 rfl) rfl <| s_getA (dc kc_X6_isWayRising 18 rfl) fl_X6_9 hcel <| k_b (dc kc_X6_isWayRising 19 rfl) rfl <| k_i (dc kc_X6_isWayRising 20 rfl) rfl <| r_aload_n (dc kc_X6_isWayRising 21 rfl) rfl <| s_getA (dc kc_X6_isWayRising 22 rfl) fl_X6_29 (ly_50_5 hL (by assumption)) <| s_iload_n (dc kc_X6_isWayRising 23 rfl) rfl <| s_iaload (dc kc_X6_isWayRising 24 rfl) rfl (by first | omega | (simp [up] <;> omega)) (by first | omega | (simp [up] <;> omega)) <| b_imul (dc kc_X6_isWayRising 25 rfl) (by first | omega | (simp [up] <;> omega)) (by first | omega | (simp [up] <;> omega)) <| b_iadd (dc kc_X6_isWayRising 26 rfl) (by first | omega | (simp [up] <;> omega)) (by first | omega | (simp [up] <;> omega)) <| s_iaload (dc kc_X6_isWayRising 27 rfl) rfl (by first | omega | (simp [up] <;> omega)) (by first | omega | (simp [up] <;> omega)) <| t_i3 (dc kc_X6_isWayRising 28 rfl) (Nat.le_of_ble_eq_true rfl) rfl <| s_iload_n (dc kc_X6_isWayRising 29 rfl) rfl <| s_iload_n (dc kc_X6_isWayRising 30 rfl) rfl <| s_icmp_ge (tgt := 51) (dc kc_X6_isWayRising 31 rfl) rfl (fun c46 => (s_iload_n (dc kc_X6_isWayRising 34 rfl) rfl <| t_i1 (dc kc_X6_isWayRising 35 rfl) (Nat.le_of_ble_eq_true rfl) rfl <| b_inc2 (dc kc_X6_isWayRising 36 rfl) rfl (Nat.le_of_ble_eq_true rfl) rfl (by first | omega | (simp [up] <;> omega)) (by first | omega | (simp [up] <;> omega)) <| s_goto (tgt := 19) (dc kc_X6_isWayRising 37 rfl) rfl <| ?_)) (fun c46 => (k_i (dc kc_X6_isWayRising 32 rfl) rfl <| s_zreturn (dc kc_X6_isWayRising 33 rfl) rfl (by first | exact Or.inl rfl | exact Or.inr rfl | exact bi_01 | assumption) (Nat.zero_le _) (Nat.zero_le _) ?_))))
      · exfalso; omega
      · rw [ex, k16] at c46
        rw [ex, k16]
        refine ih _ hC e3 ?_
        rw [← hp]
        have : decide (p ≤ clG mi g (8 + 3 * x)) = true := by simp; exact c46
        rw [this, Bool.true_and]
      · rw [ex, k16] at c46
        have : decide (p ≤ clG mi g (8 + 3 * x)) = false := by
          simp
          show mi g 16 (8 + 3 * x) < p
          omega
        rw [this, Bool.false_and] at hp
        rw [← hp] at hq
        rw [bi_f (by decide)] at hq
        exact hq
    · refine s_iload_n (dc kc_X6_isWayRising 13 rfl) rfl <| r_aload_n (dc kc_X6_isWayRising 14 rfl) rfl <| s_getI (dc kc_X6_isWayRising 15 rfl) fl_X6_32 <| s_icmp_ge (tgt := 59) (dc kc_X6_isWayRising 16 rfl) rfl (fun c24 => (k_i (dc kc_X6_isWayRising 38 rfl) rfl <| s_zreturn (dc kc_X6_isWayRising 39 rfl) rfl (by first | exact Or.inl rfl | exact Or.inr rfl | exact bi_01 | assumption) (Nat.zero_le _) (Nat.zero_le _) ?_)) (fun c24 => (?_))
      · rw [List.drop_of_length_le (by omega), rise] at hp
        rw [← hp, bi_t rfl] at hq
        exact hq
      · exfalso; omega
  refine r_aload_n (dc kc_X6_isWayRising 0 rfl) rfl <| s_dup (dc kc_X6_isWayRising 1 rfl) rfl <| s_getI (dc kc_X6_isWayRising 2 rfl) fl_X6_22 <| r_aload_n (dc kc_X6_isWayRising 3 rfl) rfl <| s_getI (dc kc_X6_isWayRising 4 rfl) fl_X6_35 <| k_i (dc kc_X6_isWayRising 5 rfl) rfl <| s_ishl (dc kc_X6_isWayRising 6 rfl) <| s_ior (dc kc_X6_isWayRising 7 rfl) <| s_putI (dc kc_X6_isWayRising 8 rfl) fl_X6_22 <| k_i (dc kc_X6_isWayRising 9 rfl) rfl <| t_i1 (dc kc_X6_isWayRising 10 rfl) (Nat.le_of_ble_eq_true rfl) rfl <| k_i (dc kc_X6_isWayRising 11 rfl) rfl <| t_i2 (dc kc_X6_isWayRising 12 rfl) (Nat.le_of_ble_eq_true rfl) rfl <| ?_
  exact loop 0 (Nat.zero_le _) _ 0 _ (Cg.rf.up (by simp [pRd])) up_at rfl
end RD2
