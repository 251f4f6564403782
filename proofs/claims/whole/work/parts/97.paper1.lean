/-! the class: the paper's payments -/
/-- a list in an array -/
def PAr (mi : MI) (j : Nat) (c : Int) (L : List Int) : Prop := c = (L.length : Int) ∧ L.length ≤ 24 ∧ ∀ (i : Nat) x, L[i]? = some x → mi 0 j i = x
section PAP
variable {d n G : Nat} {mr : MR} {Q : V → MI → Nat → MR → Prop}
theorem u_isPaidAsDue (hL : Lay G mr) {mi : MI} {PL DL : List Int} (hP : PAr mi 71 (mi 0 70 4) PL) (hD : PAr mi 72 (mi 0 70 7) DL) (hQ1 : PL = DL → Q (vI 1) mi n mr) (hQ0 : PL ≠ DL → Q (vI 0) mi n mr) : Tx (d+1) mt_X5_isPaidAsDue [vR (some (0, 70))] mi n mr Q := by
  obtain ⟨p1, p2, p3⟩ := hP
  obtain ⟨q1, q2, q3⟩ := hD
  refine tx_intro (ls := [vR (some (0, 70)), vX 0]) om_X5_isPaidAsDue rfl (Nat.le_of_ble_eq_true rfl) ?_
  by_cases hl : PL.length = DL.length
  · have loop : ∀ k : Nat, k ≤ PL.length → (∀ i : Nat, i < k → PL[i]? = DL[i]?) → Run (d+1) mt_X5_isPaidAsDue Q (n, mr, 0, 0) mi 15 [vR (some (0, 70)), vI (k : Int)] [] := by
      refine nloop ?_
      intro k hk ih hall
      by_cases he : k < PL.length
      · have g1 : PL[k]? = some PL[k] := List.getElem?_eq_getElem he
        have g2 : DL[k]? = some (DL[k]'(by omega)) := List.getElem?_eq_getElem (by omega)
        have v1 := p3 k _ g1
        have v2 := q3 k _ g2
        have ih := ih he
        refine s_iload_n (dc kc_X5_isPaidAsDue 9 rfl) rfl <| r_aload_n (dc kc_X5_isPaidAsDue 10 rfl) rfl <| s_getI (dc kc_X5_isPaidAsDue 11 rfl) fl_X5_36 <| s_icmp_ge (tgt := 46) (dc kc_X5_isPaidAsDue 12 rfl) rfl (fun c20 => (?_)) (fun c20 => (r_aload_n (dc kc_X5_isPaidAsDue 13 rfl) rfl <| s_getA (dc kc_X5_isPaidAsDue 14 rfl) fl_X5_32 (ly_70_3 hL) <| s_iload_n (dc kc_X5_isPaidAsDue 15 rfl) rfl <| s_iaload (dc kc_X5_isPaidAsDue 16 rfl) rfl (by first | omega | (simp [up] <;> omega)) (by first | omega | (simp [up] <;> omega)) <| r_aload_n (dc kc_X5_isPaidAsDue 17 rfl) rfl <| s_getA (dc kc_X5_isPaidAsDue 18 rfl) fl_X5_43 (ly_70_6 hL) <| s_iload_n (dc kc_X5_isPaidAsDue 19 rfl) rfl <| s_iaload (dc kc_X5_isPaidAsDue 20 rfl) rfl (by first | omega | (simp [up] <;> omega)) (by first | omega | (simp [up] <;> omega)) <| s_icmp_eq (tgt := 40) (dc kc_X5_isPaidAsDue 21 rfl) rfl (fun c35 => (b_inc1 (dc kc_X5_isPaidAsDue 24 rfl) rfl (Nat.le_of_ble_eq_true rfl) rfl (by first | omega | (simp [up] <;> omega)) (by first | omega | (simp [up] <;> omega)) <| s_goto (tgt := 15) (dc kc_X5_isPaidAsDue 25 rfl) rfl <| ?_)) (fun c35 => (k_i (dc kc_X5_isPaidAsDue 22 rfl) rfl <| s_zreturn (dc kc_X5_isPaidAsDue 23 rfl) rfl (by first | exact Or.inl rfl | exact Or.inr rfl | exact bi_01 | assumption) (Nat.zero_le _) (Nat.zero_le _) ?_))))
        · exfalso; omega
        · rw [v1, v2] at c35
          exact ih (fun i hi => by
            by_cases e : i = k
            · subst e; rw [g1, g2, c35]
            · exact hall i (by omega))
        · rw [v1, v2] at c35
          exact hQ0 (fun z => by
            have e : PL[k]? = DL[k]? := congrArg (fun l : List Int => l[k]?) z
            rw [g1, g2] at e
            exact c35 (Option.some.inj e))
      · refine s_iload_n (dc kc_X5_isPaidAsDue 9 rfl) rfl <| r_aload_n (dc kc_X5_isPaidAsDue 10 rfl) rfl <| s_getI (dc kc_X5_isPaidAsDue 11 rfl) fl_X5_36 <| s_icmp_ge (tgt := 46) (dc kc_X5_isPaidAsDue 12 rfl) rfl (fun c20 => (k_i (dc kc_X5_isPaidAsDue 26 rfl) rfl <| s_zreturn (dc kc_X5_isPaidAsDue 27 rfl) rfl (by first | exact Or.inl rfl | exact Or.inr rfl | exact bi_01 | assumption) (Nat.zero_le _) (Nat.zero_le _) ?_)) (fun c20 => (?_))
        · exact hQ1 (List.ext_getElem? (fun i => by
            by_cases hi : i < k
            · exact hall i hi
            · rw [List.getElem?_eq_none (by omega), List.getElem?_eq_none (by omega)]))
        · exfalso; omega
    refine r_aload_n (dc kc_X5_isPaidAsDue 0 rfl) rfl <| s_getI (dc kc_X5_isPaidAsDue 1 rfl) fl_X5_36 <| r_aload_n (dc kc_X5_isPaidAsDue 2 rfl) rfl <| s_getI (dc kc_X5_isPaidAsDue 3 rfl) fl_X5_46 <| s_icmp_eq (tgt := 13) (dc kc_X5_isPaidAsDue 4 rfl) rfl (fun c8 => (k_i (dc kc_X5_isPaidAsDue 7 rfl) rfl <| t_i1 (dc kc_X5_isPaidAsDue 8 rfl) (Nat.le_of_ble_eq_true rfl) rfl <| ?_)) (fun c8 => (k_i (dc kc_X5_isPaidAsDue 5 rfl) rfl <| s_zreturn (dc kc_X5_isPaidAsDue 6 rfl) rfl (by first | exact Or.inl rfl | exact Or.inr rfl | exact bi_01 | assumption) (Nat.zero_le _) (Nat.zero_le _) ?_))
    · exact loop 0 (Nat.zero_le _) (fun i hi => by omega)
    · exfalso; omega
  · refine r_aload_n (dc kc_X5_isPaidAsDue 0 rfl) rfl <| s_getI (dc kc_X5_isPaidAsDue 1 rfl) fl_X5_36 <| r_aload_n (dc kc_X5_isPaidAsDue 2 rfl) rfl <| s_getI (dc kc_X5_isPaidAsDue 3 rfl) fl_X5_46 <| s_icmp_eq (tgt := 13) (dc kc_X5_isPaidAsDue 4 rfl) rfl (fun c8 => (?_)) (fun c8 => (k_i (dc kc_X5_isPaidAsDue 5 rfl) rfl <| s_zreturn (dc kc_X5_isPaidAsDue 6 rfl) rfl (by first | exact Or.inl rfl | exact Or.inr rfl | exact bi_01 | assumption) (Nat.zero_le _) (Nat.zero_le _) ?_))
    · exfalso; omega
    · exact hQ0 (fun z => hl (by rw [z]))
end PAP
