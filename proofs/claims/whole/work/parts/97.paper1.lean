/-! the class: the paper's payments -/
/-- a list in an array -/
def PAr (mi : MI) (j : Nat) (c : Int) (L : List Int) : Prop := c = (L.length : Int) ∧ L.length ≤ 24 ∧ ∀ (i : Nat) x, L[i]? = some x → mi 0 j i = x
section PAP
variable {d n G : Nat} {mr : MR} {Q : V → MI → Nat → MR → Prop}
theorem u_isPaidAsDue (hL : Lay G mr) {mi : MI} {PL DL : List Int} (hP : PAr mi 71 (mi 0 70 4) PL) (hD : PAr mi 72 (mi 0 70 7) DL) (hQ1 : PL = DL → Q (vI 1) mi n mr) (hQ0 : PL ≠ DL → Q (vI 0) mi n mr) : Tx (d+1) mt_X5_isPaidAsDue [vR (some (0, 70))] mi n mr Q := by
  obtain ⟨p1, p2, p3⟩ := hP
  obtain ⟨q1, q2, q3⟩ := hD
  refine tx_intro (ls := [vR (some (0, 70)), vX 0]) om_X5_isPaidAsDue rfl (Nat.le_of_ble_eq_true rfl) ?_
  by_cases hl : PL.length = DL.length
  · have loop : ∀ k : Nat, k ≤ PL.length → (∀ i : Nat, i < k → PL[i]? = DL[i]?) → Run (d+1) mt_X5_isPaidAsDue Q (n, mr, 0, 0) mi 15 [vR (some (0, 70)), vI (k : Int)] [] := by
      refine nloop ?_
      intro k hk ih hall
      by_cases he : k < PL.length
      · have g1 : PL[k]? = some PL[k] := List.getElem?_eq_getElem he
        have g2 : DL[k]? = some (DL[k]'(by omega)) := List.getElem?_eq_getElem (by omega)
        have v1 := p3 k _ g1
        have v2 := q3 k _ g2
        have ih := ih he
        refine s_iload_n (dc kc_X5_isPaidAsDue 9 rfl) rfl <| r_aload_n (dc kc_X5_isPaidAsDue 10 rfl) rfl <| s_getI (dc kc_X5_isPaidAsDue 11 rfl) fl_X5_36 <| s_icmp_ge (tgt := 46) (dc kc_X5_isPaidAsDue 12 rfl) rfl (fun c20 => (?_)) (fun c20 => (r_aload_n (dc kc_X5_isPaidAsDue 13 rfl) rfl <| s_getA (dc kc_X5_isPaidAsDue 14 rfl) fl_X5_32 (ly_70_3 hL) <| s_iload_n (dc kc_X5_isPaidAsDue 15 rfl) rfl <| s_iaload (dc kc_X5_isPaidAsDue 16 rfl) rfl (by first | omega | (simp [up] <;> omega)) (by first | omega | (simp [up] <;> omega)) <| r_aload_n (dc kc_X5_isPaidAsDue 17 rfl) rfl <| s_getA (dc kc_X5_isPaidAsDue 18 rfl) fl_X5_43 (ly_70_6 hL) <| s_iload_n (dc kc_X5_isPaidAsDue 19 rfl) rfl <| s_iaload (dc kc_X5_isPaidAsDue 20 rfl) rfl (by first | omega | (simp [up] <;> omega)) (by first | omega | (simp [up] <;> omega)) <| s_icmp_eq (tgt := 40) (dc kc_X5_isPaidAsDue 21 rfl) rfl (fun c35 => (b_inc1 (dc kc_X5_isPaidAsDue 24 rfl) rfl (Nat.le_of_ble_eq_true rfl) rfl (by first | omega | (simp [up] <;> omega)) (by first | omega | (simp [up] <;> omega)) <| s_goto (tgt := 15) (dc kc_X5_isPaidAsDue 25 rfl) rfl <| ?_)) (fun c35 => (k_i (dc kc_X5_isPaidAsDue 22 rfl) rfl <| s_zreturn (dc kc_X5_isPaidAsDue 23 rfl) rfl (by first | exact Or.inl rfl | exact Or.inr rfl | exact bi_01 | assumption) (Nat.zero_le _) (Nat.zero_le _) ?_))))
        · exfalso; omega
        · rw [v1, v2] at c35
          exact ih (fun i hi => by
            by_cases e : i = k
            · subst e; rw [g1, g2, c35]
            · exact hall i (by omega))
        · rw [v1, v2] at c35
          exact hQ0 (fun z => by
            have e : PL[k]? = DL[k]? := congrArg (fun l : List Int => l[k]?) z
            rw [g1, g2] at e
            exact c35 (Option.some.inj e))
      · refine s_iload_n (dc kc_X5_isPaidAsDue 9 rfl) rfl <| r_aload_n (dc kc_X5_isPaidAsDue 10 rfl) rfl <| s_getI (dc kc_X5_isPaidAsDue 11 rfl) fl_X5_36 <| s_icmp_ge (tgt := 46) (dc kc_X5_isPaidAsDue 12 rfl) rfl (fun c20 => (k_i (dc kc_X5_isPaidAsDue 26 rfl) rfl <| s_zreturn (dc kc_X5_isPaidAsDue 27 rfl) rfl (by first | exact Or.inl rfl | exact Or.inr rfl | exact bi_01 | assumption) (Nat.zero_le _) (Nat.zero_le _) ?_)) (fun c20 => (?_))
        · exact hQ1 (List.ext_getElem? (fun i => by
            by_cases hi : i < k
            · exact hall i hi
            · rw [List.getElem?_eq_none (by omega), List.getElem?_eq_none (by omega)]))
        · exfalso; omega
    refine r_aload_n (dc kc_X5_isPaidAsDue 0 rfl) rfl <| s_getI (dc kc_X5_isPaidAsDue 1 rfl) fl_X5_36 <| r_aload_n (dc kc_X5_isPaidAsDue 2 rfl) rfl <| s_getI (dc kc_X5_isPaidAsDue 3 rfl) fl_X5_46 <| s_icmp_eq (tgt := 13) (dc kc_X5_isPaidAsDue 4 rfl) rfl (fun c8 => (k_i (dc kc_X5_isPaidAsDue 7 rfl) rfl <| t_i1 (dc kc_X5_isPaidAsDue 8 rfl) (Nat.le_of_ble_eq_true rfl) rfl <| ?_)) (fun c8 => (k_i (dc kc_X5_isPaidAsDue 5 rfl) rfl <| s_zreturn (dc kc_X5_isPaidAsDue 6 rfl) rfl (by first | exact Or.inl rfl | exact Or.inr rfl | exact bi_01 | assumption) (Nat.zero_le _) (Nat.zero_le _) ?_))
    · exact loop 0 (Nat.zero_le _) (fun i hi => by omega)
    · exfalso; omega
  · refine r_aload_n (dc kc_X5_isPaidAsDue 0 rfl) rfl <| s_getI (dc kc_X5_isPaidAsDue 1 rfl) fl_X5_36 <| r_aload_n (dc kc_X5_isPaidAsDue 2 rfl) rfl <| s_getI (dc kc_X5_isPaidAsDue 3 rfl) fl_X5_46 <| s_icmp_eq (tgt := 13) (dc kc_X5_isPaidAsDue 4 rfl) rfl (fun c8 => (?_)) (fun c8 => (k_i (dc kc_X5_isPaidAsDue 5 rfl) rfl <| s_zreturn (dc kc_X5_isPaidAsDue 6 rfl) rfl (by first | exact Or.inl rfl | exact Or.inr rfl | exact bi_01 | assumption) (Nat.zero_le _) (Nat.zero_le _) ?_))
    · exfalso; omega
    · exact hQ0 (fun z => hl (by rw [z]))
end PAP
section PAQ
variable {d n G : Nat} {mr : MR} {Q : V → MI → Nat → MR → Prop}
theorem u_whatCame (hL : Lay G mr) {mi : MI} {x : Nat} {ρ c : Int → Int} {PL DL : List Int} (hx : okI G 20 x) (hV : VC c) (hM : MLw mi x ρ) (hA : ag c (clG mi 9)) (hP : PAr mi 71 (mi 0 70 4) PL) (hD : PAr mi 72 (mi 0 70 7) DL) (hQ3 : (∃ l, 0 ≤ l ∧ l < ρ 16 ∧ valA c (lawC ρ l) = 0) → ∀ mi' mr', Cg (pQ 3) mi mi' → Cr mr mr' → Q (vI 3) mi' n mr') (hQ : (∀ l, 0 ≤ l → l < ρ 16 → valA c (lawC ρ l) = 1) → ∀ mi' mr', Cg (pQ 3) mi mi' → Cr mr mr' → Q (vI (if PL = DL then 0 else if mi 0 70 8 < mi 0 70 5 then 1 else 2)) mi' n mr') : Tx (d+5) mt_X5_whatCame [vR (some (0, 70)), vR (some (x, 20))] mi n mr Q := by
  have hok3 : okI G 15 9 := Or.inr rfl
  refine tx_intro (ls := [vR (some (0, 70)), vR (some (x, 20))]) om_X5_whatCame rfl (Nat.le_of_ble_eq_true rfl) ?_
  refine r_aload_n (dc kc_X5_whatCame 0 rfl) rfl <| s_getO (dc kc_X5_whatCame 1 rfl) fl_X5_12 (ly_70_0 hL) <| r_aload_n (dc kc_X5_whatCame 2 rfl) rfl <| s_getO (dc kc_X5_whatCame 3 rfl) fl_X5_28 (ly_70_2 hL) <| s_getA (dc kc_X5_whatCame 4 rfl) fl_X5_88 (ly_15_0 hL (by assumption)) <| c_v1 (dc kc_X5_whatCame 5 rfl) cl_X5_130 rfl (Nat.le_of_ble_eq_true rfl) (Nat.zero_le _) (Nat.zero_le _) ?_
  refine u_rbegin ?_
  have hR0 : Cr mr (upR mr 3 50 0 (some (9, 16))) := Cr.rf.cel (fun z => by first | rfl | omega)
  have hcel : upR mr 3 50 0 (some (9, 16)) 3 50 0 = some (9, 16) := upR_at
  have hL1 := hR0.lay hL
  generalize upR mr 3 50 0 (some (9, 16)) = mr1 at *
  have hL := hL1
  have g0 : Cg (pQ 3) mi (up (up mi 3 50 3 0) 3 50 4 0) := (Cg.rf.up (by simp [pQ])).up (by simp [pQ])
  have b0 : Bm (up (up mi 3 50 3 0) 3 50 4 0 3 50 3) [] := by rw [up_k (by decide), up_at]; exact Bm.nil
  generalize up (up mi 3 50 3 0) 3 50 4 0 = m1 at *
  have hag : ag c (clG m1 9) := fun i a b => by
    show m1 9 16 i = _
    rw [g0.at (by simp [pQ])]; exact hA i a b
  have hM1 : MLw m1 x ρ := hM.mv (g0.at (by simp [pQ])) (g0.row (fun k => by simp [pQ])) (g0.row (fun k => by simp [pQ])) (g0.row (fun k => by simp [pQ]))
  have vv : ∀ l, 0 ≤ l → l < ρ 16 → valA (clG m1 9) (lawC ρ l) = valA c (lawC ρ l) := fun l a b => valA_ag hV hag (hM.2.2 l a b).2.2.2.2
  refine r_aload_n (dc kc_X5_whatCame 6 rfl) rfl <| s_getO (dc kc_X5_whatCame 7 rfl) fl_X5_12 (ly_70_0 hL) <| r_aload_n (dc kc_X5_whatCame 8 rfl) rfl <| c_v1r (dc kc_X5_whatCame 9 rfl) cl_X5_134 rfl (Nat.le_of_ble_eq_true rfl) (Nat.zero_le _) (Nat.zero_le _) ?_
  refine u_allHold hL (by decide) hx hcel (hV.ag hag) (K := lawC ρ) (by rw [hM1.1]; exact hM.2.1.2) (fun l a b => hM1.2.2 l a (by rw [← hM1.1]; exact b)) b0 (fun hall m2 g2 => ?_) (fun hbr m2 g2 => ?_)
  · have g02 := g0.tr g2
    have hall' : ∀ l, 0 ≤ l → l < ρ 16 → valA c (lawC ρ l) = 1 := fun l a b => by rw [← vv l a b]; exact hall l a (by rw [hM1.1]; exact b)
    have e70 : m2 0 70 = mi 0 70 := g02.row (fun k => by simp [pQ])
    have e71 : m2 0 71 = mi 0 71 := g02.row (fun k => by simp [pQ])
    have e72 : m2 0 72 = mi 0 72 := g02.row (fun k => by simp [pQ])
    have key := hQ hall' m2 mr1 g02 hR0
    refine s_if_ne (tgt := 27) (dc kc_X5_whatCame 10 rfl) rfl (fun c22 => (r_aload_n (dc kc_X5_whatCame 13 rfl) rfl <| c_v0r (dc kc_X5_whatCame 14 rfl) cl_X5_138 rfl (Nat.le_of_ble_eq_true rfl) (Nat.zero_le _) (Nat.zero_le _) ?_)) (fun c22 => (?_))
    · refine u_isPaidAsDue (PL := PL) (DL := DL) hL (by unfold PAr; rw [e70, e71]; exact hP) (by unfold PAr; rw [e70, e72]; exact hD) (fun he => ?_) (fun he => ?_)
      · rw [if_pos he] at key
        refine s_if_eq (tgt := 36) (dc kc_X5_whatCame 15 rfl) rfl (fun c31 => (?_)) (fun c31 => (k_i (dc kc_X5_whatCame 16 rfl) rfl <| s_ireturn (dc kc_X5_whatCame 17 rfl) rfl (Nat.zero_le _) (Nat.zero_le _) ?_))
        · exfalso; omega
        · exact key
      · rw [if_neg he] at key
        have e8 : m2 0 70 8 = mi 0 70 8 := by rw [e70]
        have e5 : m2 0 70 5 = mi 0 70 5 := by rw [e70]
        refine s_if_eq (tgt := 36) (dc kc_X5_whatCame 15 rfl) rfl (fun c31 => (r_aload_n (dc kc_X5_whatCame 18 rfl) rfl <| s_getI (dc kc_X5_whatCame 19 rfl) fl_X5_40 <| r_aload_n (dc kc_X5_whatCame 20 rfl) rfl <| s_getI (dc kc_X5_whatCame 21 rfl) fl_X5_49 <| s_icmp_le (tgt := 51) (dc kc_X5_whatCame 22 rfl) rfl (fun c44 => (k_i (dc kc_X5_whatCame 25 rfl) rfl <| s_ireturn (dc kc_X5_whatCame 26 rfl) rfl (Nat.zero_le _) (Nat.zero_le _) ?_)) (fun c44 => (k_i (dc kc_X5_whatCame 23 rfl) rfl <| s_goto (tgt := 52) (dc kc_X5_whatCame 24 rfl) rfl <| s_ireturn (dc kc_X5_whatCame 26 rfl) rfl (Nat.zero_le _) (Nat.zero_le _) ?_)))) (fun c31 => (?_))
        · rw [if_neg (by omega)] at key; exact key
        · rw [if_pos (by omega)] at key; exact key
        · exfalso; omega
    · exfalso; omega
  · obtain ⟨l, w1, w2, w3⟩ := hbr
    rw [hM1.1] at w2
    rw [vv l w1 w2] at w3
    refine s_if_ne (tgt := 27) (dc kc_X5_whatCame 10 rfl) rfl (fun c22 => (?_)) (fun c22 => (k_i (dc kc_X5_whatCame 11 rfl) rfl <| s_ireturn (dc kc_X5_whatCame 12 rfl) rfl (Nat.zero_le _) (Nat.zero_le _) ?_))
    · exfalso; omega
    · exact hQ3 ⟨l, w1, w2, w3⟩ m2 mr1 (g0.tr g2) hR0
end PAQ
