/-! the class: frames for many instances; its small methods -/
/-- memory is the same but where P allows -/
def Cg (P : Nat → Nat → Int → Bool) (mi mi' : MI) : Prop := ∀ g j k, P g j k = true ∨ mi' g j k = mi g j k
section CGG
variable {P P' : Nat → Nat → Int → Bool} {mi mi' mi2 : MI}
theorem Cg.rf : Cg P mi mi := fun _ _ _ => Or.inr rfl
theorem Cg.tr (h : Cg P mi mi') (h2 : Cg P mi' mi2) : Cg P mi mi2 := fun g j k => by
  rcases h2 g j k with q | q
  · exact Or.inl q
  · rcases h g j k with z | z
    · exact Or.inl z
    · exact Or.inr (q.trans z)
theorem Cg.mono (h : Cg P mi mi') (hp : ∀ g j k, P g j k = true → P' g j k = true) : Cg P' mi mi' := fun g j k => (h g j k).elim (fun z => Or.inl (hp g j k z)) Or.inr
theorem Cg.up {g j : Nat} {k v : Int} (h : Cg P mi mi') (hp : P g j k = true) : Cg P mi (up mi' g j k v) := fun g' j' k' => by
  by_cases e : (g', j', k') = ((g, j, k) : Nat × Nat × Int)
  · injection e with e1 e2
    injection e2 with e2 e3
    subst e1; subst e2; subst e3
    exact Or.inl hp
  · rcases h g' j' k' with z | z
    · exact Or.inl z
    · exact Or.inr ((up_off g' j' k' e).trans z)
theorem Cg.upA {g j : Nat} {f : Int → Int} (h : Cg P mi mi') (hp : ∀ k, P g j k = true) : Cg P mi (upA mi' g j f) := fun g' j' k' => by
  by_cases e : (g', j') = ((g, j) : Nat × Nat)
  · injection e with e1 e2
    subst e1; subst e2
    exact Or.inl (hp k')
  · rcases h g' j' k' with z | z
    · exact Or.inl z
    · exact Or.inr ((congrFun (upA_a e) k').trans z)
theorem Cg.at (h : Cg P mi mi') {g j : Nat} {k : Int} (hp : P g j k = false) : mi' g j k = mi g j k := (h g j k).elim (fun z => by rw [hp] at z; exact absurd z (by decide)) id
theorem Cg.row (h : Cg P mi mi') {g j : Nat} (hp : ∀ k, P g j k = false) : mi' g j = mi g j := funext fun k => h.at (hp k)
end CGG
theorem up_g {mi : MI} {g j g' j' : Nat} {k v : Int} (h : g' ≠ g) : up mi g j k v g' j' = mi g' j' := up_row (fun z => h (by injection z))
/-- references are the same but readers' cells (the mender's reader takes the mender's) and the mender's laws -/
def Cr (mr mr' : MR) : Prop := ∀ g j k, (j = 50 ∧ k = 0 ∧ (g = 2 → mr' g j k = some (0, 63))) ∨ (j = 60 ∧ k = 4) ∨ mr' g j k = mr g j k
theorem Cr.rf {mr : MR} : Cr mr mr := fun _ _ _ => Or.inr (Or.inr rfl)
theorem Cr.tr {mr mr' mr2 : MR} (h : Cr mr mr') (h2 : Cr mr' mr2) : Cr mr mr2 := fun g j k => by
  rcases h2 g j k with z | z | z
  · exact Or.inl z
  · exact Or.inr (Or.inl z)
  · rcases h g j k with w | w | w
    · exact Or.inl ⟨w.1, w.2.1, fun e => by rw [z]; exact w.2.2 e⟩
    · exact Or.inr (Or.inl w)
    · exact Or.inr (Or.inr (z.trans w))
theorem Cr.cel {mr mr' : MR} {g : Nat} {v : Option Ad} (hv : g = 2 → v = some (0, 63)) (h : Cr mr mr') : Cr mr (upR mr' g 50 0 v) := fun g' j k => by
  by_cases e : (g', j, k) = ((g, 50, 0) : Nat × Nat × Int)
  · injection e with e1 e2
    injection e2 with e2 e3
    subst e1
    subst e2
    subst e3
    exact Or.inl ⟨rfl, rfl, fun z => by rw [upR_at]; exact hv z⟩
  · rcases h g' j k with w | w | w
    · exact Or.inl ⟨w.1, w.2.1, fun z => by rw [upR_off g' j k e]; exact w.2.2 z⟩
    · exact Or.inr (Or.inl w)
    · exact Or.inr (Or.inr ((upR_off g' j k e).trans w))
theorem Cr.mlw {mr mr' : MR} {g : Nat} {v : Option Ad} (h : Cr mr mr') : Cr mr (upR mr' g 60 4 v) := fun g' j k => by
  by_cases e : (g', j, k) = ((g, 60, 4) : Nat × Nat × Int)
  · injection e with e1 e2
    injection e2 with e2 e3
    exact Or.inr (Or.inl ⟨e2, e3⟩)
  · rcases h g' j k with w | w | w
    · exact Or.inl ⟨w.1, w.2.1, fun z => by rw [upR_off g' j k e]; exact w.2.2 z⟩
    · exact Or.inr (Or.inl w)
    · exact Or.inr (Or.inr ((upR_off g' j k e).trans w))
theorem Cr.m2 {mr mr' : MR} (h : Cr mr mr') (h2 : mr 2 50 0 = some (0, 63)) : mr' 2 50 0 = some (0, 63) := by
  rcases h 2 50 0 with w | w | w
  · exact w.2.2 rfl
  · exact absurd w.1 (by decide)
  · rw [w]; exact h2
theorem Cr.at {mr mr' : MR} (h : Cr mr mr') {g j : Nat} {k : Int} (h1 : ¬ (j = 50 ∧ k = 0)) (h2 : ¬ (j = 60 ∧ k = 4)) : mr' g j k = mr g j k := by
  rcases h g j k with w | w | w
  · exact absurd ⟨w.1, w.2.1⟩ h1
  · exact absurd w h2
  · exact w
theorem Cr.lay {mr mr' : MR} {G : Nat} (h : Cr mr mr') (hL : Lay G mr) : Lay G mr' := by
  intro q hq g hg
  have hf : frL.all (fun q => !(q.1 == 50 && q.2.1 == 0) && !(q.1 == 60 && q.2.1 == 4)) = true := rfl
  have h1 := List.all_eq_true.mp hf q hq
  simp at h1
  rw [h.at (fun z => by omega) (fun z => by omega)]
  exact hL q hq g hg
section CLS1
variable {d n G : Nat} {mi : MI} {mr : MR} {Q : V → MI → Nat → MR → Prop}
theorem u_isCell {c : Int} (hQ : Q (vI (bi (0 ≤ c ∧ c < 24))) mi n mr) : Tx (d+1) mt_X11_isCell [vI c] mi n mr Q := by
  refine tx_intro (ls := [vI c]) om_X11_isCell rfl (Nat.le_of_ble_eq_true rfl) ?_
  refine s_iload_n (dc kc_X11_isCell 0 rfl) rfl <| s_if_lt (tgt := 14) (dc kc_X11_isCell 1 rfl) rfl (fun c1 => (k_i (dc kc_X11_isCell 7 rfl) rfl <| s_zreturn (dc kc_X11_isCell 8 rfl) rfl (by first | exact Or.inl rfl | exact Or.inr rfl | exact bi_01 | assumption) (Nat.zero_le _) (Nat.zero_le _) ?_)) (fun c1 => (s_iload_n (dc kc_X11_isCell 2 rfl) rfl <| k_b (dc kc_X11_isCell 3 rfl) rfl <| s_icmp_ge (tgt := 14) (dc kc_X11_isCell 4 rfl) rfl (fun c7 => (k_i (dc kc_X11_isCell 7 rfl) rfl <| s_zreturn (dc kc_X11_isCell 8 rfl) rfl (by first | exact Or.inl rfl | exact Or.inr rfl | exact bi_01 | assumption) (Nat.zero_le _) (Nat.zero_le _) ?_)) (fun c7 => (k_i (dc kc_X11_isCell 5 rfl) rfl <| s_goto (tgt := 15) (dc kc_X11_isCell 6 rfl) rfl <| s_zreturn (dc kc_X11_isCell 8 rfl) rfl (by first | exact Or.inl rfl | exact Or.inr rfl | exact bi_01 | assumption) (Nat.zero_le _) (Nat.zero_le _) ?_))))
  all_goals (first | (rw [bi_t (by omega)] at hQ; exact hQ) | (rw [bi_f (by omega)] at hQ; exact hQ))
theorem u_isNumber {c : Int} (h0 : 0 ≤ c) (hQ : Q (vI (bi (¬ (c < 3 ∨ (6 ≤ c ∧ c % 3 ≠ 2))))) mi n mr) : Tx (d+1) mt_X11_isNumber [vI c] mi n mr Q := by
  refine tx_intro (ls := [vI c]) om_X11_isNumber rfl (Nat.le_of_ble_eq_true rfl) ?_
  refine s_iload_n (dc kc_X11_isNumber 0 rfl) rfl <| k_i (dc kc_X11_isNumber 1 rfl) rfl <| s_icmp_lt (tgt := 22) (dc kc_X11_isNumber 2 rfl) rfl (fun c2 => (k_i (dc kc_X11_isNumber 13 rfl) rfl <| s_zreturn (dc kc_X11_isNumber 14 rfl) rfl (by first | exact Or.inl rfl | exact Or.inr rfl | exact bi_01 | assumption) (Nat.zero_le _) (Nat.zero_le _) ?_)) (fun c2 => (s_iload_n (dc kc_X11_isNumber 3 rfl) rfl <| k_b (dc kc_X11_isNumber 4 rfl) rfl <| s_icmp_lt (tgt := 18) (dc kc_X11_isNumber 5 rfl) rfl (fun c8 => (k_i (dc kc_X11_isNumber 11 rfl) rfl <| s_goto (tgt := 23) (dc kc_X11_isNumber 12 rfl) rfl <| s_zreturn (dc kc_X11_isNumber 14 rfl) rfl (by first | exact Or.inl rfl | exact Or.inr rfl | exact bi_01 | assumption) (Nat.zero_le _) (Nat.zero_le _) ?_)) (fun c8 => (s_iload_n (dc kc_X11_isNumber 6 rfl) rfl <| k_i (dc kc_X11_isNumber 7 rfl) rfl <| b_irem (dc kc_X11_isNumber 8 rfl) (by first | omega | (simp [up] <;> omega)) (by first | omega | (simp [up] <;> omega)) <| k_i (dc kc_X11_isNumber 9 rfl) rfl <| s_icmp_ne (tgt := 22) (dc kc_X11_isNumber 10 rfl) rfl (fun c15 => (k_i (dc kc_X11_isNumber 13 rfl) rfl <| s_zreturn (dc kc_X11_isNumber 14 rfl) rfl (by first | exact Or.inl rfl | exact Or.inr rfl | exact bi_01 | assumption) (Nat.zero_le _) (Nat.zero_le _) ?_)) (fun c15 => (k_i (dc kc_X11_isNumber 11 rfl) rfl <| s_goto (tgt := 23) (dc kc_X11_isNumber 12 rfl) rfl <| s_zreturn (dc kc_X11_isNumber 14 rfl) rfl (by first | exact Or.inl rfl | exact Or.inr rfl | exact bi_01 | assumption) (Nat.zero_le _) (Nat.zero_le _) ?_))))))
  all_goals (first | (rw [bi_t (by omega)] at hQ; exact hQ) | (rw [bi_f (by omega)] at hQ; exact hQ))
def loC (c : Int) : Int := if c < 3 ∨ (6 ≤ c ∧ c % 3 ≠ 2) then -1 else 0
def hiC (c : Int) : Int := if c < 3 ∨ (6 ≤ c ∧ c % 3 ≠ 2) then 5 else 9
theorem biC_lh {c v : Int} : biC c v = 1 ↔ loC c ≤ v ∧ v ≤ hiC c := by
  unfold biC loC hiC
  rw [bi_eq1]
  split <;> omega
theorem loC_rg (c : Int) : -1 ≤ loC c ∧ loC c ≤ 0 := by unfold loC; split <;> omega
theorem hiC_rg (c : Int) : 5 ≤ hiC c ∧ hiC c ≤ 9 := by unfold hiC; split <;> omega
theorem u_lowestOf {c : Int} (h0 : 0 ≤ c) (hQ : Q (vI (loC c)) mi n mr) : Tx (d+2) mt_X11_lowestOf [vI c] mi n mr Q := by
  unfold loC at hQ
  refine tx_intro (ls := [vI c]) om_X11_lowestOf rfl (Nat.le_of_ble_eq_true rfl) ?_
  refine s_iload_n (dc kc_X11_lowestOf 0 rfl) rfl <| c_s1r (dc kc_X11_lowestOf 1 rfl) cl_X11_367 rfl (Nat.le_of_ble_eq_true rfl) (Nat.zero_le _) (Nat.zero_le _) <| u_isNumber (by first | omega | (simp [up] <;> omega)) <| s_if_eqb (tgt := 11) (dc kc_X11_lowestOf 2 rfl) rfl (fun c4 => (k_i (dc kc_X11_lowestOf 5 rfl) rfl <| s_ireturn (dc kc_X11_lowestOf 6 rfl) rfl (Nat.zero_le _) (Nat.zero_le _) ?_)) (fun c4 => (k_i (dc kc_X11_lowestOf 3 rfl) rfl <| s_goto (tgt := 12) (dc kc_X11_lowestOf 4 rfl) rfl <| s_ireturn (dc kc_X11_lowestOf 6 rfl) rfl (Nat.zero_le _) (Nat.zero_le _) ?_))
  all_goals (repeat (first | rw [if_pos (by omega)] at hQ | rw [if_neg (by omega)] at hQ)); exact hQ
theorem u_highestOf {c : Int} (h0 : 0 ≤ c) (hQ : Q (vI (hiC c)) mi n mr) : Tx (d+2) mt_X11_highestOf [vI c] mi n mr Q := by
  unfold hiC at hQ
  refine tx_intro (ls := [vI c]) om_X11_highestOf rfl (Nat.le_of_ble_eq_true rfl) ?_
  refine s_iload_n (dc kc_X11_highestOf 0 rfl) rfl <| c_s1r (dc kc_X11_highestOf 1 rfl) cl_X11_367 rfl (Nat.le_of_ble_eq_true rfl) (Nat.zero_le _) (Nat.zero_le _) <| u_isNumber (by first | omega | (simp [up] <;> omega)) <| s_if_eqb (tgt := 12) (dc kc_X11_highestOf 2 rfl) rfl (fun c4 => (k_i (dc kc_X11_highestOf 5 rfl) rfl <| s_ireturn (dc kc_X11_highestOf 6 rfl) rfl (Nat.zero_le _) (Nat.zero_le _) ?_)) (fun c4 => (k_b (dc kc_X11_highestOf 3 rfl) rfl <| s_goto (tgt := 13) (dc kc_X11_highestOf 4 rfl) rfl <| s_ireturn (dc kc_X11_highestOf 6 rfl) rfl (Nat.zero_le _) (Nat.zero_le _) ?_))
  all_goals (repeat (first | rw [if_pos (by omega)] at hQ | rw [if_neg (by omega)] at hQ)); exact hQ
theorem u_canBe {c v : Int} (h0 : 0 ≤ c) (hQ : Q (vI (biC c v)) mi n mr) : Tx (d+3) mt_X11_canBe [vI c, vI v] mi n mr Q := by
  have hb : ∀ b, (b = 1 ↔ loC c ≤ v ∧ v ≤ hiC c) → (b = 0 ∨ b = 1) → Q (vI b) mi n mr := by
    intro b h1 h2
    have := biC_lh (c := c) (v := v)
    have h3 := biC_01 (c := c) (v := v)
    rw [show b = biC c v by omega]
    exact hQ
  refine tx_intro (ls := [vI c, vI v]) om_X11_canBe rfl (Nat.le_of_ble_eq_true rfl) ?_
  refine s_iload_n (dc kc_X11_canBe 0 rfl) rfl <| s_iload_n (dc kc_X11_canBe 1 rfl) rfl <| c_s1r (dc kc_X11_canBe 2 rfl) cl_X11_370 rfl (Nat.le_of_ble_eq_true rfl) (Nat.zero_le _) (Nat.zero_le _) <| u_lowestOf (by first | omega | (simp [up] <;> omega)) <| s_icmp_lt (tgt := 20) (dc kc_X11_canBe 3 rfl) rfl (fun c5 => (k_i (dc kc_X11_canBe 10 rfl) rfl <| s_zreturn (dc kc_X11_canBe 11 rfl) rfl (by first | exact Or.inl rfl | exact Or.inr rfl | exact bi_01 | assumption) (Nat.zero_le _) (Nat.zero_le _) ?_)) (fun c5 => (s_iload_n (dc kc_X11_canBe 4 rfl) rfl <| s_iload_n (dc kc_X11_canBe 5 rfl) rfl <| c_s1r (dc kc_X11_canBe 6 rfl) cl_X11_373 rfl (Nat.le_of_ble_eq_true rfl) (Nat.zero_le _) (Nat.zero_le _) <| u_highestOf (by first | omega | (simp [up] <;> omega)) <| s_icmp_gt (tgt := 20) (dc kc_X11_canBe 7 rfl) rfl (fun c13 => (k_i (dc kc_X11_canBe 10 rfl) rfl <| s_zreturn (dc kc_X11_canBe 11 rfl) rfl (by first | exact Or.inl rfl | exact Or.inr rfl | exact bi_01 | assumption) (Nat.zero_le _) (Nat.zero_le _) ?_)) (fun c13 => (k_i (dc kc_X11_canBe 8 rfl) rfl <| s_goto (tgt := 21) (dc kc_X11_canBe 9 rfl) rfl <| s_zreturn (dc kc_X11_canBe 11 rfl) rfl (by first | exact Or.inl rfl | exact Or.inr rfl | exact bi_01 | assumption) (Nat.zero_le _) (Nat.zero_le _) ?_))))
  all_goals exact hb _ (by omega) (by omega)
theorem u_kindOf {c : Int} (h0 : 0 ≤ c) (h1 : c ≤ 1000) (hQ : Q (vI (knd c)) mi n mr) : Tx (d+1) mt_X11_kindOf [vI c] mi n mr Q := by
  unfold knd at hQ
  refine tx_intro (ls := [vI c]) om_X11_kindOf rfl (Nat.le_of_ble_eq_true rfl) ?_
  refine s_iload_n (dc kc_X11_kindOf 0 rfl) rfl <| k_i (dc kc_X11_kindOf 1 rfl) rfl <| s_icmp_ge (tgt := 7) (dc kc_X11_kindOf 2 rfl) rfl (fun c2 => (s_iload_n (dc kc_X11_kindOf 5 rfl) rfl <| k_b (dc kc_X11_kindOf 6 rfl) rfl <| s_icmp_ge (tgt := 17) (dc kc_X11_kindOf 7 rfl) rfl (fun c10 => (k_i (dc kc_X11_kindOf 10 rfl) rfl <| s_iload_n (dc kc_X11_kindOf 11 rfl) rfl <| k_i (dc kc_X11_kindOf 12 rfl) rfl <| b_irem (dc kc_X11_kindOf 13 rfl) (by first | omega | (simp [up] <;> omega)) (by first | omega | (simp [up] <;> omega)) <| b_iadd (dc kc_X11_kindOf 14 rfl) (by first | omega | (simp [up] <;> omega)) (by first | omega | (simp [up] <;> omega)) <| s_ireturn (dc kc_X11_kindOf 15 rfl) rfl (Nat.zero_le _) (Nat.zero_le _) ?_)) (fun c10 => (k_i (dc kc_X11_kindOf 8 rfl) rfl <| s_goto (tgt := 22) (dc kc_X11_kindOf 9 rfl) rfl <| s_ireturn (dc kc_X11_kindOf 15 rfl) rfl (Nat.zero_le _) (Nat.zero_le _) ?_)))) (fun c2 => (k_i (dc kc_X11_kindOf 3 rfl) rfl <| s_ireturn (dc kc_X11_kindOf 4 rfl) rfl (Nat.zero_le _) (Nat.zero_le _) ?_))
  all_goals (repeat (first | rw [if_pos (by omega)] at hQ | rw [if_neg (by omega)] at hQ)); exact hQ
theorem u_markOf {g : Nat} {c : Int} (hQ : Q (vI (bAnd (bShr (mi g 15 1) c) 1)) mi n mr) : Tx (d+1) mt_X10_markOf [vR (some (g, 15)), vI c] mi n mr Q := by
  refine tx_intro (ls := [vR (some (g, 15)), vI c]) om_X10_markOf rfl (Nat.le_of_ble_eq_true rfl) ?_
  refine r_aload_n (dc kc_X10_markOf 0 rfl) rfl <| s_getI (dc kc_X10_markOf 1 rfl) fl_X10_15 <| s_iload_n (dc kc_X10_markOf 2 rfl) rfl <| s_ishr (dc kc_X10_markOf 3 rfl) <| k_i (dc kc_X10_markOf 4 rfl) rfl <| s_iand (dc kc_X10_markOf 5 rfl) <| s_ireturn (dc kc_X10_markOf 6 rfl) rfl (Nat.zero_le _) (Nat.zero_le _) ?_
  exact hQ
/-- a mark set or taken away -/
theorem mark_is {x c b : Int} (hc : 0 ≤ c) (hc1 : c < 32) (hb : b = 0 ∨ b = 1) : bOr (bAnd x (bXor (bShl 1 c) (-1))) (bShl b c) = if b = 0 then bClr x c else bSet x c := by
  rcases hb with e | e
  · rw [e, if_pos rfl]
    refine tB_ext (bOr_rg _ _) (bClr_rg _ _) (fun i hi => ?_)
    rw [tB_or, tB_shl hc hc1, tB_0]
    simp
    rfl
  · rw [e, if_neg (by decide)]
    refine tB_ext (bOr_rg _ _) (bSet_rg _ _) (fun i hi => ?_)
    rw [tB_or, tB_bit hc hc1 hi, tB_set hc hc1 hi]
    have := tB_clr (x := x) hc hc1 hi
    unfold bClr at this
    rw [this]
    cases tB x i <;> cases decide (i = c.toNat) <;> rfl
theorem u_mark {g : Nat} {c b : Int} (h0 : 0 ≤ c) (h1 : c < 24) (hb : b = 0 ∨ b = 1) (hQ : Q (vX 0) (up mi g 15 1 (if b = 0 then bClr (mi g 15 1) c else bSet (mi g 15 1) c)) n mr) : Tx (d+1) mt_X10_mark [vR (some (g, 15)), vI c, vI b] mi n mr Q := by
  refine tx_intro (ls := [vR (some (g, 15)), vI c, vI b]) om_X10_mark rfl (Nat.le_of_ble_eq_true rfl) ?_
  refine r_aload_n (dc kc_X10_mark 0 rfl) rfl <| r_aload_n (dc kc_X10_mark 1 rfl) rfl <| s_getI (dc kc_X10_mark 2 rfl) fl_X10_15 <| k_i (dc kc_X10_mark 3 rfl) rfl <| s_iload_n (dc kc_X10_mark 4 rfl) rfl <| s_ishl (dc kc_X10_mark 5 rfl) <| k_i (dc kc_X10_mark 6 rfl) rfl <| s_ixor (dc kc_X10_mark 7 rfl) <| s_iand (dc kc_X10_mark 8 rfl) <| s_iload_n (dc kc_X10_mark 9 rfl) rfl <| s_iload_n (dc kc_X10_mark 10 rfl) rfl <| s_ishl (dc kc_X10_mark 11 rfl) <| s_ior (dc kc_X10_mark 12 rfl) <| s_putI (dc kc_X10_mark 13 rfl) fl_X10_15 <| s_return (dc kc_X10_mark 14 rfl) rfl (Nat.zero_le _) (Nat.zero_le _) ?_
  rw [mark_is h0 (by omega) hb]
  exact hQ
theorem u_has {g : Nat} {j : Int} (hQ : Q (vI (bi (0 ≤ j ∧ j < mi g 20 0))) mi n mr) : Tx (d+1) mt_X8_has [vR (some (g, 20)), vI j] mi n mr Q := by
  refine tx_intro (ls := [vR (some (g, 20)), vI j]) om_X8_has rfl (Nat.le_of_ble_eq_true rfl) ?_
  refine s_iload_n (dc kc_X8_has 0 rfl) rfl <| s_if_lt (tgt := 16) (dc kc_X8_has 1 rfl) rfl (fun c1 => (k_i (dc kc_X8_has 8 rfl) rfl <| s_zreturn (dc kc_X8_has 9 rfl) rfl (by first | exact Or.inl rfl | exact Or.inr rfl | exact bi_01 | assumption) (Nat.zero_le _) (Nat.zero_le _) ?_)) (fun c1 => (s_iload_n (dc kc_X8_has 2 rfl) rfl <| r_aload_n (dc kc_X8_has 3 rfl) rfl <| s_getI (dc kc_X8_has 4 rfl) fl_X8_9 <| s_icmp_ge (tgt := 16) (dc kc_X8_has 5 rfl) rfl (fun c9 => (k_i (dc kc_X8_has 8 rfl) rfl <| s_zreturn (dc kc_X8_has 9 rfl) rfl (by first | exact Or.inl rfl | exact Or.inr rfl | exact bi_01 | assumption) (Nat.zero_le _) (Nat.zero_le _) ?_)) (fun c9 => (k_i (dc kc_X8_has 6 rfl) rfl <| s_goto (tgt := 17) (dc kc_X8_has 7 rfl) rfl <| s_zreturn (dc kc_X8_has 9 rfl) rfl (by first | exact Or.inl rfl | exact Or.inr rfl | exact bi_01 | assumption) (Nat.zero_le _) (Nat.zero_le _) ?_))))
  all_goals (first | (rw [bi_t (by omega)] at hQ; exact hQ) | (rw [bi_f (by omega)] at hQ; exact hQ))
theorem u_min {a b : Int} (hQ : Q (vI (min a b)) mi n mr) : Tx (d+1) mt_J9_min_7cf53 [vI a, vI b] mi n mr Q := by
  refine tx_intro (ls := [vI a, vI b]) om_J9_min_7cf53 rfl (Nat.le_of_ble_eq_true rfl) ?_
  refine s_iload_n (dc kc_J9_min_7cf53 0 rfl) rfl <| s_iload_n (dc kc_J9_min_7cf53 1 rfl) rfl <| s_icmp_gt (tgt := 9) (dc kc_J9_min_7cf53 2 rfl) rfl (fun c2 => (s_iload_n (dc kc_J9_min_7cf53 5 rfl) rfl <| s_ireturn (dc kc_J9_min_7cf53 6 rfl) rfl (Nat.zero_le _) (Nat.zero_le _) ?_)) (fun c2 => (s_iload_n (dc kc_J9_min_7cf53 3 rfl) rfl <| s_goto (tgt := 10) (dc kc_J9_min_7cf53 4 rfl) rfl <| s_ireturn (dc kc_J9_min_7cf53 6 rfl) rfl (Nat.zero_le _) (Nat.zero_le _) ?_))
  · rw [show min a b = b by omega] at hQ; exact hQ
  · rw [show min a b = a by omega] at hQ; exact hQ
theorem u_max {a b : Int} (hQ : Q (vI (max a b)) mi n mr) : Tx (d+1) mt_J9_max_7cf53 [vI a, vI b] mi n mr Q := by
  refine tx_intro (ls := [vI a, vI b]) om_J9_max_7cf53 rfl (Nat.le_of_ble_eq_true rfl) ?_
  refine s_iload_n (dc kc_J9_max_7cf53 0 rfl) rfl <| s_iload_n (dc kc_J9_max_7cf53 1 rfl) rfl <| s_icmp_lt (tgt := 9) (dc kc_J9_max_7cf53 2 rfl) rfl (fun c2 => (s_iload_n (dc kc_J9_max_7cf53 5 rfl) rfl <| s_ireturn (dc kc_J9_max_7cf53 6 rfl) rfl (Nat.zero_le _) (Nat.zero_le _) ?_)) (fun c2 => (s_iload_n (dc kc_J9_max_7cf53 3 rfl) rfl <| s_goto (tgt := 10) (dc kc_J9_max_7cf53 4 rfl) rfl <| s_ireturn (dc kc_J9_max_7cf53 6 rfl) rfl (Nat.zero_le _) (Nat.zero_le _) ?_))
  · rw [show max a b = b by omega] at hQ; exact hQ
  · rw [show max a b = a by omega] at hQ; exact hQ
theorem u_floorMod {a b : Int} (ha : 0 ≤ a) (ha2 : a < 2147483648) (hb : 0 < b) (hb2 : b < 2147483648) (hQ : Q (vI (a % b)) mi n mr) : Tx (d+1) mt_J9_floorMod_7cf53 [vI a, vI b] mi n mr Q := by
  have hx : 0 ≤ bXor a b := by
    have h := tB_neg (bXor_rg a b)
    rw [tB_xor, tB_neg ⟨by omega, by omega⟩, tB_neg ⟨by omega, by omega⟩] at h
    have e1 : decide (a < 0) = false := by simp; omega
    have e2 : decide (b < 0) = false := by simp; omega
    rw [e1, e2] at h
    simp at h
    exact h
  refine tx_intro (ls := [vI a, vI b, vX 0]) om_J9_floorMod_7cf53 rfl (Nat.le_of_ble_eq_true rfl) ?_
  refine s_iload_n (dc kc_J9_floorMod_7cf53 0 rfl) rfl <| s_iload_n (dc kc_J9_floorMod_7cf53 1 rfl) rfl <| b_irem (dc kc_J9_floorMod_7cf53 2 rfl) (by first | omega | (simp [up] <;> omega)) (by first | omega | (simp [up] <;> omega)) <| t_i2 (dc kc_J9_floorMod_7cf53 3 rfl) (Nat.le_of_ble_eq_true rfl) rfl <| s_iload_n (dc kc_J9_floorMod_7cf53 4 rfl) rfl <| s_iload_n (dc kc_J9_floorMod_7cf53 5 rfl) rfl <| s_ixor (dc kc_J9_floorMod_7cf53 6 rfl) <| s_if_ge (tgt := 18) (dc kc_J9_floorMod_7cf53 7 rfl) rfl (fun c7 => (s_iload_n (dc kc_J9_floorMod_7cf53 14 rfl) rfl <| s_ireturn (dc kc_J9_floorMod_7cf53 15 rfl) rfl (Nat.zero_le _) (Nat.zero_le _) ?_)) (fun c7 => (s_iload_n (dc kc_J9_floorMod_7cf53 8 rfl) rfl <| s_if_eq (tgt := 18) (dc kc_J9_floorMod_7cf53 9 rfl) rfl (fun c11 => (s_iload_n (dc kc_J9_floorMod_7cf53 14 rfl) rfl <| s_ireturn (dc kc_J9_floorMod_7cf53 15 rfl) rfl (Nat.zero_le _) (Nat.zero_le _) ?_)) (fun c11 => (s_iload_n (dc kc_J9_floorMod_7cf53 10 rfl) rfl <| s_iload_n (dc kc_J9_floorMod_7cf53 11 rfl) rfl <| b_iadd (dc kc_J9_floorMod_7cf53 12 rfl) (by first | omega | (simp [up] <;> omega)) (by first | omega | (simp [up] <;> omega)) <| s_ireturn (dc kc_J9_floorMod_7cf53 13 rfl) rfl (Nat.zero_le _) (Nat.zero_le _) ?_))))
  · exact hQ
  · exfalso; omega
  · exfalso; omega
end CLS1
