/-! the reference: again, walked -/
def pN (j : Nat) (k : Int) : Bool := j == 81 || j == 82 || j == 85 || j == 92 || (j == 80 && (k == 0 || k == 1 || k == 7 || k == 8 || k == 9 || k == 30 || k == 31 || k == 32 || k == 33))
theorem ud_same {f : Int → Int} {k : Int} : ud f k (f k) = f := by
  funext i
  by_cases e : i = k
  · rw [e, ud_at]
  · rw [ud_ne e]
theorem rcO_2 {o : OC} : rcO o = 2 ↔ o.1 = 1 := by
  unfold rcO
  split
  · omega
  · split
    · omega
    · split <;> omega
section AGU
variable {d n G : Nat} {mr : MR} {Q : V → MI → Nat → MR → Prop}
theorem t_again (hL : Lay G mr) {mi : MI} {s B : Int} (hI : Inv B (mi 0 81))
    (hQ1 : ¬ (0 ≤ s ∧ s < mi 0 81 0) → ∀ mi', Ch pT mi mi' → mi' 0 80 1 = -1 → Q (vI (-1)) mi' n mr)
    (hQ2 : 0 ≤ s → s < mi 0 81 0 → (s < mi 0 81 0 - 200 ∨ s ≤ mi 0 81 20) → ∀ mi', Ch pT mi mi' → mi' 0 80 1 = -3 → Q (vI (-3)) mi' n mr)
    (hQ3 : 0 ≤ s → s < mi 0 81 0 → mi 0 81 0 - 200 ≤ s → mi 0 81 20 < s → agF (ag0 (mi 0 81) s) (s + 1) (mi 0 81 0 - s - 1).toNat = none → ∀ mi', Ch pN mi mi' → mi' 0 81 = mi 0 81 → mi' 0 80 33 = mi 0 80 33 → mi' 0 80 1 = -3 → Q (vI (-3)) mi' n mr)
    (hQ4 : 0 ≤ s → s < mi 0 81 0 → mi 0 81 0 - 200 ≤ s → mi 0 81 20 < s → ∀ q, agF (ag0 (mi 0 81) s) (s + 1) (mi 0 81 0 - s - 1).toNat = some q → ∀ mi', Ch pN mi mi' → mi' 0 81 = q.1 → mi' 0 80 33 = 0 → mi' 0 80 1 = 0 → Q (vI q.2) mi' n mr) : Tx (d+7) mt_X12_again [vR (some (0, 80)), vI s] mi n mr Q := by
  refine tx_intro (ls := [vR (some (0, 80)), vI s, vX 0, vX 0, vX 0, vX 0, vX 0, vX 0]) om_X12_again rfl (Nat.le_of_ble_eq_true rfl) ?_
  generalize hρ : mi 0 81 = ρ at *
  obtain ⟨hI0, hW, hC, hB⟩ := hI
  have h0 := hI0.2.1
  have h8 := hI0.2.2.2.1
  have h17 := hI0.2.2.2.2.2.2.1
  have hl := hI0.2.2.2.2.2.2.2.2.2
  have e81 : up mi 0 80 0 0 0 81 = ρ := by rw [up_j (by decide), hρ]
  have e810 : up mi 0 80 0 0 0 81 0 = ρ 0 := by rw [e81]
  have e8120 : up mi 0 80 0 0 0 81 20 = ρ 20 := by rw [e81]
  have hρ0 : mi 0 81 0 = ρ 0 := by rw [hρ]
  refine r_aload_n (dc kc_X12_again_0 0 rfl) rfl <| k_i (dc kc_X12_again_0 1 rfl) rfl <| s_putI (dc kc_X12_again_0 2 rfl) fl_X12_86 <| r_aload_n (dc kc_X12_again_0 3 rfl) rfl <| s_iload_n (dc kc_X12_again_0 4 rfl) rfl <| c_v1r (dc kc_X12_again_0 5 rfl) cl_X12_509 rfl (Nat.le_of_ble_eq_true rfl) (Nat.zero_le _) (Nat.zero_le _) <| t_isStep hL (by first | omega | (simp [up] <;> omega)) (by first | omega | (simp [up] <;> omega)) <| s_if_neb (tgt := 19) (dc kc_X12_again_0 6 rfl) rfl (fun c10 => (s_iload_n (dc kc_X12_again_0 11 rfl) rfl <| r_aload_n (dc kc_X12_again_0 12 rfl) rfl <| s_getA (dc kc_X12_again_0 13 rfl) fl_X12_7 (ly_80_2 hL) <| k_i (dc kc_X12_again_0 14 rfl) rfl <| s_iaload (dc kc_X12_again_0 15 rfl) rfl (by first | omega | (simp [up] <;> omega)) (by first | omega | (simp [up] <;> omega)) <| k_s (dc kc_X12_again_0 16 rfl) rfl <| b_isub (dc kc_X12_again_0 17 rfl) (by first | omega | (simp [up] <;> omega)) (by first | omega | (simp [up] <;> omega)) <| s_icmp_lt (tgt := 44) (dc kc_X12_again_0 18 rfl) rfl (fun c30 => (r_aload_n (dc kc_X12_again_0 25 rfl) rfl <| k_b (dc kc_X12_again_0 26 rfl) rfl <| c_v1r (dc kc_X12_again_0 27 rfl) cl_X12_96 rfl (Nat.le_of_ble_eq_true rfl) (Nat.zero_le _) (Nat.zero_le _) <| t_tell <| s_ireturn (dc kc_X12_again_0 28 rfl) rfl (Nat.zero_le _) (Nat.zero_le _) ?_)) (fun c30 => (r_aload_n (dc kc_X12_again_0 19 rfl) rfl <| s_getA (dc kc_X12_again_0 20 rfl) fl_X12_7 (ly_80_2 hL) <| k_b (dc kc_X12_again_0 21 rfl) rfl <| s_iaload (dc kc_X12_again_0 22 rfl) rfl (by first | omega | (simp [up] <;> omega)) (by first | omega | (simp [up] <;> omega)) <| s_iload_n (dc kc_X12_again_0 23 rfl) rfl <| s_icmp_lt (tgt := 51) (dc kc_X12_again_0 24 rfl) rfl (fun c41 => (k_i (dc kc_X12_again_0 29 rfl) rfl <| t_i2 (dc kc_X12_again_0 30 rfl) (Nat.le_of_ble_eq_true rfl) rfl <| ?_)) (fun c41 => (r_aload_n (dc kc_X12_again_0 25 rfl) rfl <| k_b (dc kc_X12_again_0 26 rfl) rfl <| c_v1r (dc kc_X12_again_0 27 rfl) cl_X12_96 rfl (Nat.le_of_ble_eq_true rfl) (Nat.zero_le _) (Nat.zero_le _) <| t_tell <| s_ireturn (dc kc_X12_again_0 28 rfl) rfl (Nat.zero_le _) (Nat.zero_le _) ?_)))))) (fun c10 => (r_aload_n (dc kc_X12_again_0 7 rfl) rfl <| k_i (dc kc_X12_again_0 8 rfl) rfl <| c_v1r (dc kc_X12_again_0 9 rfl) cl_X12_96 rfl (Nat.le_of_ble_eq_true rfl) (Nat.zero_le _) (Nat.zero_le _) <| t_tell <| s_ireturn (dc kc_X12_again_0 10 rfl) rfl (Nat.zero_le _) (Nat.zero_le _) ?_))
  · rw [e810] at c10 c30
    exact hQ2 c10.1 c10.2 (Or.inl (by omega)) _ ((Ch.rf.up rfl).up rfl) up_at
  · rw [e810] at c10 c30
    rw [e8120] at c41
    have h17p : 0 < ρ 17 := by have := hW.2.2.2.1; omega
    have hA0 := ag0_Inv (s := s) hI0.1 hW h8 hC.2.2.2.2.2.2.2.2.2 c10.1 c41
    -- the row laid back
    have rest : ∀ (i : Nat), i ≤ 3886 → ∀ (m : MI) (R : Int → Int) (x1 x2 x5 x6 x7 : V), agF (ag0 ρ s) (s + 1) (ρ 0 - s - 1).toNat = none → Ch pN mi m → m 0 80 33 = mi 0 80 33 → (∀ k, k < 0 ∨ 3886 ≤ k → R k = ρ k) → m 0 82 = cpF (mi 0 82) ρ 0 0 3886 → m 0 81 = cpF R ρ 0 0 i → Run (d+7) mt_X12_again Q (n, mr, 0, 0) m 285 [vR (some (0, 80)), x1, x2, vI 0, vI (i : Int), x5, x6, x7] [] := by
      refine nloop ?_
      intro i hi ih m R x1 x2 x5 x6 x7 hn g e33 hR e82 em
      by_cases he : i < 3886
      · refine s_iload (dc kc_X12_again_4 2 rfl) rfl <| k_s (dc kc_X12_again_4 3 rfl) rfl <| s_icmp_ge (tgt := 313) (dc kc_X12_again_4 4 rfl) rfl (fun c290 => (?_)) (fun c290 => (r_aload_n (dc kc_X12_again_4 5 rfl) rfl <| s_getA (dc kc_X12_again_4 6 rfl) fl_X12_7 (ly_80_2 hL) <| s_iload (dc kc_X12_again_4 7 rfl) rfl <| r_aload_n (dc kc_X12_again_4 8 rfl) rfl <| s_getA (dc kc_X12_again_4 9 rfl) fl_X12_13 (ly_80_3 hL) <| s_iload (dc kc_X12_again_4 10 rfl) rfl <| s_iaload (dc kc_X12_again_4 11 rfl) rfl (by first | omega | (simp [up] <;> omega)) (by first | omega | (simp [up] <;> omega)) <| s_iastore (dc kc_X12_again_4 12 rfl) rfl (by first | omega | (simp [up] <;> omega)) (by first | omega | (simp [up] <;> omega)) <| b_inc4 (dc kc_X12_again_4 13 rfl) rfl (Nat.le_of_ble_eq_true rfl) rfl (by first | omega | (simp [up] <;> omega)) (by first | omega | (simp [up] <;> omega)) <| s_goto (tgt := 285) (dc kc_X12_again_4 14 rfl) rfl <| ?_))
        · exfalso; omega
        · refine ih he _ R _ _ _ _ _ hn (g.up rfl) (by rw [up_j (by decide), e33]) hR (by rw [up_j (by decide), e82]) ?_
          rw [up_ud, em, e82, show ((i + 1 : Nat) : Int) = (i : Int) + 1 by omega]
          have := cpF_s (f := R) (g := ρ) (a := 0) (b := 0) (N := i) (v := cpF (mi 0 82) ρ 0 0 3886 i) (by omega) (by rw [cpF_at (by omega) (by omega)]; congr 1; omega)
          rw [Int.zero_add] at this
          exact this
      · have : i = 3886 := by omega
        subst this
        refine s_iload (dc kc_X12_again_4 2 rfl) rfl <| k_s (dc kc_X12_again_4 3 rfl) rfl <| s_icmp_ge (tgt := 313) (dc kc_X12_again_4 4 rfl) rfl (fun c290 => (r_aload_n (dc kc_X12_again_4 15 rfl) rfl <| k_b (dc kc_X12_again_4 16 rfl) rfl <| c_v1r (dc kc_X12_again_4 17 rfl) cl_X12_96 rfl (Nat.le_of_ble_eq_true rfl) (Nat.zero_le _) (Nat.zero_le _) <| t_tell <| s_ireturn (dc kc_X12_again_4 18 rfl) rfl (Nat.zero_le _) (Nat.zero_le _) ?_)) (fun c290 => (?_))
        · refine hQ3 c10.1 c10.2 (by omega) c41 hn _ (g.up rfl) ?_ (by rw [up_k (by decide), e33]) up_at
          rw [up_j (by decide), em]
          funext k
          by_cases e : 0 ≤ k ∧ k < 3886
          · rw [cpF_at e.1 (by omega)]; congr 1; omega
          · rw [cpF_off (by omega)]; exact hR k (by omega)
        · exfalso; omega
    have badE : ∀ (m : MI) (x1 x2 x4 x5 x6 x7 : V), agF (ag0 ρ s) (s + 1) (ρ 0 - s - 1).toNat = none → Ch pN mi m → m 0 80 33 = mi 0 80 33 → (∀ k, k < 0 ∨ 3886 ≤ k → m 0 81 k = ρ k) → m 0 82 = cpF (mi 0 82) ρ 0 0 3886 → Run (d+7) mt_X12_again Q (n, mr, 0, 0) m 278 [vR (some (0, 80)), x1, x2, vI 0, x4, x5, x6, x7] [] := by
      intro m x1 x2 x4 x5 x6 x7 hn g e33 hR e82
      refine s_iload_n (dc kc_X12_again_3 38 rfl) rfl <| s_if_ne (tgt := 320) (dc kc_X12_again_3 39 rfl) rfl (fun c279 => (?_)) (fun c279 => (k_i (dc kc_X12_again_4 0 rfl) rfl <| t_i4 (dc kc_X12_again_4 1 rfl) (Nat.le_of_ble_eq_true rfl) rfl <| ?_))
      · exfalso; omega
      · exact rest 0 (Nat.zero_le _) m (m 0 81) _ _ _ _ _ hn g e33 hR e82 cpF_0.symm
    have loop : ∀ i : Nat, i ≤ (ρ 0 - s - 1).toNat → ∀ (m : MI) (p : (Int → Int) × Int) (x5 x6 x7 : V), Ch pN mi m → m 0 80 33 = mi 0 80 33 → m 0 82 = cpF (mi 0 82) ρ 0 0 3886 → agF (ag0 ρ s) (s + 1) i = some p → m 0 81 = p.1 → Run (d+7) mt_X12_again Q (n, mr, 0, 0) m 109 [vR (some (0, 80)), vI s, vI p.2, vI 1, vI (s + 1 + i), x5, x6, x7] [] := by
      refine nloop ?_
      intro i hi ih m p x5 x6 x7 g e33 e82 ep em
      have hA := agF_Inv hA0 c10.1 h17p hl i p (by omega) ep
      obtain ⟨hV, hW', h8', hst, h20, hof, h19⟩ := id hA.1
      have em0 : m 0 81 0 = ρ 0 := by rw [em]; exact hof 0 (by omega) (by omega) (by omega) (by omega)
      have hout : ∀ k, k < 0 ∨ 3886 ≤ k → p.1 k = ρ k := fun k z => hof k (by omega) (by omega) (by omega) (by omega)
      by_cases he : s + 1 + (i : Int) < ρ 0
      · have ex : agF (ag0 ρ s) (s + 1) (i + 1) = match agS p.1 (s + 1 + i) with
          | none => none
          | some q => some (q.1, p.2 + q.2) := by rw [agF, ep]; rfl
        have nonefin : agS p.1 (s + 1 + i) = none → agF (ag0 ρ s) (s + 1) (ρ 0 - s - 1).toNat = none := by
          intro hz
          rw [hz] at ex
          have key : ∀ r : Nat, agF (ag0 ρ s) (s + 1) (i + 1 + r) = none := by
            intro r
            induction r with
            | zero => exact ex
            | succ r ih => rw [← Nat.add_assoc, agF, ih]
          have := key ((ρ 0 - s - 1).toNat - (i + 1))
          rw [show i + 1 + ((ρ 0 - s - 1).toNat - (i + 1)) = (ρ 0 - s - 1).toNat by omega] at this
          exact this
        generalize hs' : s + 1 + (i : Int) = s' at *
        have hs0 : 0 ≤ s' := by omega
        have hs1 : s' + 1 = s + 1 + ((i + 1 : Nat) : Int) := by omega
        have hj := hW'.2.2.1 (s' % 200) (by omega) (by omega)
        have e17 : p.1 17 = ρ 17 := hof 17 (by omega) (by omega) (by omega) (by omega)
        generalize hj' : p.1 (246 + 2 * (s' % 200)) = j at *
        have ej : m 0 81 (246 + 2 * (s' % 200)) = j := by rw [em, hj']
        -- to the next
        have nxt : ∀ (m' : MI) (q : (Int → Int) × Int) (x5 x6 x7 : V), agS p.1 s' = some q → Ch pN mi m' → m' 0 80 33 = mi 0 80 33 → m' 0 82 = cpF (mi 0 82) ρ 0 0 3886 → m' 0 81 = q.1 → Run (d+7) mt_X12_again Q (n, mr, 0, 0) m' 272 [vR (some (0, 80)), vI s, vI (p.2 + q.2), vI 1, vI s', x5, x6, x7] [] := by
          intro m' q x5 x6 x7 hq g' e33' e82' em'
          rw [hq] at ex
          have hn' := ih (by omega) m' (q.1, p.2 + q.2) x5 x6 x7 g' e33' e82' ex em'
          refine b_inc4 (dc kc_X12_again_3 36 rfl) rfl (Nat.le_of_ble_eq_true rfl) rfl (by first | omega | (simp [up] <;> omega)) (by first | omega | (simp [up] <;> omega)) <| s_goto (tgt := 109) (dc kc_X12_again_3 37 rfl) rfl <| ?_
          rw [hs1]
          exact hn'
        refine s_iload (dc kc_X12_again_1 26 rfl) rfl <| r_aload_n (dc kc_X12_again_1 27 rfl) rfl <| s_getA (dc kc_X12_again_1 28 rfl) fl_X12_7 (ly_80_2 hL) <| k_i (dc kc_X12_again_1 29 rfl) rfl <| s_iaload (dc kc_X12_again_1 30 rfl) rfl (by first | omega | (simp [up] <;> omega)) (by first | omega | (simp [up] <;> omega)) <| s_icmp_ge (tgt := 278) (dc kc_X12_again_1 31 rfl) rfl (fun c117 => (?_)) (fun c117 => (s_iload_n (dc kc_X12_again_1 32 rfl) rfl <| s_if_eq (tgt := 278) (dc kc_X12_again_1 33 rfl) rfl (fun c121 => (?_)) (fun c121 => (k_s (dc kc_X12_again_1 34 rfl) rfl <| k_i (dc kc_X12_again_1 35 rfl) rfl <| s_iload (dc kc_X12_again_1 36 rfl) rfl <| k_s (dc kc_X12_again_1 37 rfl) rfl <| b_irem (dc kc_X12_again_1 38 rfl) (by first | omega | (simp [up] <;> omega)) (by first | omega | (simp [up] <;> omega)) <| b_imul (dc kc_X12_again_1 39 rfl) (by first | omega | (simp [up] <;> omega)) (by first | omega | (simp [up] <;> omega)) <| b_iadd (dc kc_X12_again_2 0 rfl) (by first | omega | (simp [up] <;> omega)) (by first | omega | (simp [up] <;> omega)) <| t_i5 (dc kc_X12_again_2 1 rfl) (Nat.le_of_ble_eq_true rfl) rfl <| r_aload_n (dc kc_X12_again_2 2 rfl) rfl <| s_getA (dc kc_X12_again_2 3 rfl) fl_X12_7 (ly_80_2 hL) <| s_iload (dc kc_X12_again_2 4 rfl) rfl <| s_iaload (dc kc_X12_again_2 5 rfl) rfl (by first | omega | (simp [up] <;> omega)) (by first | omega | (simp [up] <;> omega)) <| k_i (dc kc_X12_again_2 6 rfl) rfl <| s_icmp_eq (tgt := 272) (dc kc_X12_again_2 7 rfl) rfl (fun c146 => (?_)) (fun c146 => (?_))))))
        all_goals first | (exfalso; omega) | skip
        · rw [ej] at c146
          have := nxt m (p.1, 0) (vI (246 + 2 * (s' % 200))) x6 x7 (by unfold agS; rw [hj', if_pos c146]) g e33 e82 em
          rw [Int.add_zero] at this
          exact this
        · rw [ej] at c146
          have hj0 : 0 ≤ j ∧ j < ρ 17 := by omega
          have hw : WfLine p.1 j := (hl j hj0.1 hj0.2).hi hA.1.hi hj0.1
          have ejp : m 0 81 (2166 + 10 * j) = p.1 (2166 + 10 * j) := by rw [em]
          refine b_inc2 (dc kc_X12_again_2 8 rfl) rfl (Nat.le_of_ble_eq_true rfl) rfl (by first | omega | (simp [up] <;> omega)) (by first | omega | (simp [up] <;> omega)) <| r_aload_n (dc kc_X12_again_2 9 rfl) rfl <| s_getA (dc kc_X12_again_2 10 rfl) fl_X12_7 (ly_80_2 hL) <| k_s (dc kc_X12_again_2 11 rfl) rfl <| k_b (dc kc_X12_again_2 12 rfl) rfl <| r_aload_n (dc kc_X12_again_2 13 rfl) rfl <| s_getA (dc kc_X12_again_2 14 rfl) fl_X12_7 (ly_80_2 hL) <| s_iload (dc kc_X12_again_2 15 rfl) rfl <| s_iaload (dc kc_X12_again_2 16 rfl) rfl (by first | omega | (simp [up] <;> omega)) (by first | omega | (simp [up] <;> omega)) <| b_imul (dc kc_X12_again_2 17 rfl) (by first | omega | (simp [up] <;> omega)) (by first | omega | (simp [up] <;> omega)) <| b_iadd (dc kc_X12_again_2 18 rfl) (by first | omega | (simp [up] <;> omega)) (by first | omega | (simp [up] <;> omega)) <| s_iaload (dc kc_X12_again_2 19 rfl) rfl (by first | omega | (simp [up] <;> omega)) (by first | omega | (simp [up] <;> omega)) <| k_i (dc kc_X12_again_2 20 rfl) rfl <| s_icmp_ne (tgt := 179) (dc kc_X12_again_2 21 rfl) rfl (fun c172 => (k_i (dc kc_X12_again_2 24 rfl) rfl <| ?_)) (fun c172 => (k_i (dc kc_X12_again_2 22 rfl) rfl <| s_goto (tgt := 180) (dc kc_X12_again_2 23 rfl) rfl <| ?_))
          all_goals rw [ej, ejp] at c172
          · -- no pay
            refine t_i6 (dc kc_X12_again_2 25 rfl) (Nat.le_of_ble_eq_true rfl) rfl <| s_iload (dc kc_X12_again_2 26 rfl) rfl <| s_if_ne (tgt := 209) (dc kc_X12_again_2 27 rfl) rfl (fun c184 => (?_)) (fun c184 => (r_aload_n (dc kc_X12_again_2 28 rfl) rfl <| r_aload_n (dc kc_X12_again_2 29 rfl) rfl <| s_getA (dc kc_X12_again_2 30 rfl) fl_X12_7 (ly_80_2 hL) <| s_iload (dc kc_X12_again_2 31 rfl) rfl <| s_iaload (dc kc_X12_again_2 32 rfl) rfl (by first | omega | (simp [up] <;> omega)) (by first | omega | (simp [up] <;> omega)) <| s_iload (dc kc_X12_again_2 33 rfl) rfl <| k_i (dc kc_X12_again_2 34 rfl) rfl <| c_v3r (dc kc_X12_again_2 35 rfl) cl_X12_423 rfl (Nat.le_of_ble_eq_true rfl) (Nat.zero_le _) (Nat.zero_le _) ?_))
            · exfalso; omega
            · rw [ej]
              refine t_doLine hL (by rw [show cel m = clR p.1 by unfold cel; rw [em]]; exact hV) hj0.1 (by omega) (by rw [em]; exact hw) (by rw [em]; exact h8'.1) (by rw [em]; exact h8'.2) (fun m1 g1 e1 _ => ?_)
              rw [em] at e1 ⊢
              have e1k : m1 0 81 (246 + 2 * (s' % 200) + 1) = p.1 (246 + 2 * (s' % 200) + 1) := by rw [e1]; exact lnR_off hV hw h8'.1 h8'.2 (by omega)
              have gg : Ch pN mi m1 := g.tr (g1.mono (fun _ _ z => by simp [pD, pN] at z ⊢; omega))
              have e33' : m1 0 80 33 = mi 0 80 33 := by rw [g1.at (by decide), e33]
              have e82' : m1 0 82 = cpF (mi 0 82) ρ 0 0 3886 := by rw [g1.row (fun _ => rfl), e82]
              have fin : ∀ now, now = bi ((lnO p.1 j).1 = 1) → Run (d+7) mt_X12_again Q (n, mr, 0, 0) m1 210 [vR (some (0, 80)), vI s, vI (p.2 + 1), vI 1, vI s', vI (246 + 2 * (s' % 200)), vI 0, x7] [vI now] := by
                intro now en
                have h01 : now = 0 ∨ now = 1 := by rw [en]; exact bi_01
                have good : ¬ (now = 1 ∧ p.1 (246 + 2 * (s' % 200) + 1) ≠ 1) → ∀ x7, Run (d+7) mt_X12_again Q (n, mr, 0, 0) (up m1 0 81 (246 + 2 * (s' % 200) + 1) now) 272 [vR (some (0, 80)), vI s, vI (p.2 + 1), vI 1, vI s', vI (246 + 2 * (s' % 200)), vI 0, x7] [] := by
                  intro hg x7
                  refine nxt _ (ud (lnR p.1 j s' 0) (246 + 2 * (s' % 200) + 1) (bi ((lnO p.1 j).1 = 1)), 1) _ _ _ ?_ (gg.up rfl) (by rw [up_j (by decide), e33']) (by rw [up_j (by decide), e82']) (by rw [up_ud, e1, en])
                  unfold agS
                  rw [hj', if_neg c146, if_neg c172, if_neg]
                  intro z
                  exact hg ⟨by rw [en, bi_t z.1], z.2⟩
                have bad : now = 1 → p.1 (246 + 2 * (s' % 200) + 1) ≠ 1 → ∀ v x7, Run (d+7) mt_X12_again Q (n, mr, 0, 0) (up m1 0 81 (246 + 2 * (s' % 200) + 1) v) 272 [vR (some (0, 80)), vI s, vI (p.2 + 1), vI 0, vI s', vI (246 + 2 * (s' % 200)), vI 0, x7] [] := by
                  intro h1 h2 v x7
                  have hz : agS p.1 s' = none := by
                    unfold agS
                    rw [hj', if_neg c146, if_neg c172, if_pos ⟨by rw [en] at h1; exact bi_eq1.mp h1, h2⟩]
                  have hfn := nonefin hz
                  have hb : ∀ x4, Run (d+7) mt_X12_again Q (n, mr, 0, 0) (up m1 0 81 (246 + 2 * (s' % 200) + 1) v) 278 [vR (some (0, 80)), vI s, vI (p.2 + 1), vI 0, x4, vI (246 + 2 * (s' % 200)), vI 0, x7] [] := fun x4 => badE _ _ _ _ _ _ _ hfn (gg.up rfl) (by rw [up_j (by decide), e33']) (fun k z => by rw [up_ud, ud_ne (by omega), e1, lnR_off hV hw h8'.1 h8'.2 (by omega)]; exact hout k z) (by rw [up_j (by decide), e82'])
                  refine b_inc4 (dc kc_X12_again_3 36 rfl) rfl (Nat.le_of_ble_eq_true rfl) rfl (by first | omega | (simp [up] <;> omega)) (by first | omega | (simp [up] <;> omega)) <| s_goto (tgt := 109) (dc kc_X12_again_3 37 rfl) rfl <| s_iload (dc kc_X12_again_1 26 rfl) rfl <| r_aload_n (dc kc_X12_again_1 27 rfl) rfl <| s_getA (dc kc_X12_again_1 28 rfl) fl_X12_7 (ly_80_2 hL) <| k_i (dc kc_X12_again_1 29 rfl) rfl <| s_iaload (dc kc_X12_again_1 30 rfl) rfl (by first | omega | (simp [up] <;> omega)) (by first | omega | (simp [up] <;> omega)) <| s_icmp_ge (tgt := 278) (dc kc_X12_again_1 31 rfl) rfl (fun c117 => (?_)) (fun c117 => (s_iload_n (dc kc_X12_again_1 32 rfl) rfl <| s_if_eq (tgt := 278) (dc kc_X12_again_1 33 rfl) rfl (fun c121 => (?_)) (fun c121 => (?_))))
                  · exact hb _
                  · exact hb _
                  · exfalso; omega
                refine t_i7 (dc kc_X12_again_3 1 rfl) (Nat.le_of_ble_eq_true rfl) rfl <| s_iload (dc kc_X12_again_3 2 rfl) rfl <| s_if_eq (tgt := 230) (dc kc_X12_again_3 3 rfl) rfl (fun c214 => (k_i (dc kc_X12_again_3 12 rfl) rfl <| s_goto (tgt := 235) (dc kc_X12_again_3 13 rfl) rfl <| t_i3 (dc kc_X12_again_3 15 rfl) (Nat.le_of_ble_eq_true rfl) rfl <| r_aload_n (dc kc_X12_again_3 16 rfl) rfl <| s_getA (dc kc_X12_again_3 17 rfl) fl_X12_7 (ly_80_2 hL) <| s_iload (dc kc_X12_again_3 18 rfl) rfl <| k_i (dc kc_X12_again_3 19 rfl) rfl <| b_iadd (dc kc_X12_again_3 20 rfl) (by first | omega | (simp [up] <;> omega)) (by first | omega | (simp [up] <;> omega)) <| s_iload (dc kc_X12_again_3 21 rfl) rfl <| s_if_eq (tgt := 261) (dc kc_X12_again_3 22 rfl) rfl (fun c246 => (s_iload (dc kc_X12_again_3 30 rfl) rfl <| s_if_eq (tgt := 270) (dc kc_X12_again_3 31 rfl) rfl (fun c263 => (k_i (dc kc_X12_again_3 34 rfl) rfl <| s_iastore (dc kc_X12_again_3 35 rfl) rfl (by first | omega | (simp [up] <;> omega)) (by first | omega | (simp [up] <;> omega)) <| ?_)) (fun c263 => (k_i (dc kc_X12_again_3 32 rfl) rfl <| s_goto (tgt := 271) (dc kc_X12_again_3 33 rfl) rfl <| s_iastore (dc kc_X12_again_3 35 rfl) rfl (by first | omega | (simp [up] <;> omega)) (by first | omega | (simp [up] <;> omega)) <| ?_)))) (fun c246 => (r_aload_n (dc kc_X12_again_3 23 rfl) rfl <| s_getA (dc kc_X12_again_3 24 rfl) fl_X12_7 (ly_80_2 hL) <| s_iload (dc kc_X12_again_3 25 rfl) rfl <| k_i (dc kc_X12_again_3 26 rfl) rfl <| b_iadd (dc kc_X12_again_3 27 rfl) (by first | omega | (simp [up] <;> omega)) (by first | omega | (simp [up] <;> omega)) <| s_iaload (dc kc_X12_again_3 28 rfl) rfl (by first | omega | (simp [up] <;> omega)) (by first | omega | (simp [up] <;> omega)) <| s_goto (tgt := 271) (dc kc_X12_again_3 29 rfl) rfl <| s_iastore (dc kc_X12_again_3 35 rfl) rfl (by first | omega | (simp [up] <;> omega)) (by first | omega | (simp [up] <;> omega)) <| ?_)))) (fun c214 => (r_aload_n (dc kc_X12_again_3 4 rfl) rfl <| s_getA (dc kc_X12_again_3 5 rfl) fl_X12_7 (ly_80_2 hL) <| s_iload (dc kc_X12_again_3 6 rfl) rfl <| k_i (dc kc_X12_again_3 7 rfl) rfl <| b_iadd (dc kc_X12_again_3 8 rfl) (by first | omega | (simp [up] <;> omega)) (by first | omega | (simp [up] <;> omega)) <| s_iaload (dc kc_X12_again_3 9 rfl) rfl (by first | omega | (simp [up] <;> omega)) (by first | omega | (simp [up] <;> omega)) <| k_i (dc kc_X12_again_3 10 rfl) rfl <| s_icmp_ne (tgt := 234) (dc kc_X12_again_3 11 rfl) rfl (fun c227 => (k_i (dc kc_X12_again_3 14 rfl) rfl <| t_i3 (dc kc_X12_again_3 15 rfl) (Nat.le_of_ble_eq_true rfl) rfl <| r_aload_n (dc kc_X12_again_3 16 rfl) rfl <| s_getA (dc kc_X12_again_3 17 rfl) fl_X12_7 (ly_80_2 hL) <| s_iload (dc kc_X12_again_3 18 rfl) rfl <| k_i (dc kc_X12_again_3 19 rfl) rfl <| b_iadd (dc kc_X12_again_3 20 rfl) (by first | omega | (simp [up] <;> omega)) (by first | omega | (simp [up] <;> omega)) <| s_iload (dc kc_X12_again_3 21 rfl) rfl <| s_if_eq (tgt := 261) (dc kc_X12_again_3 22 rfl) rfl (fun c246 => (s_iload (dc kc_X12_again_3 30 rfl) rfl <| s_if_eq (tgt := 270) (dc kc_X12_again_3 31 rfl) rfl (fun c263 => (k_i (dc kc_X12_again_3 34 rfl) rfl <| s_iastore (dc kc_X12_again_3 35 rfl) rfl (by first | omega | (simp [up] <;> omega)) (by first | omega | (simp [up] <;> omega)) <| ?_)) (fun c263 => (k_i (dc kc_X12_again_3 32 rfl) rfl <| s_goto (tgt := 271) (dc kc_X12_again_3 33 rfl) rfl <| s_iastore (dc kc_X12_again_3 35 rfl) rfl (by first | omega | (simp [up] <;> omega)) (by first | omega | (simp [up] <;> omega)) <| ?_)))) (fun c246 => (r_aload_n (dc kc_X12_again_3 23 rfl) rfl <| s_getA (dc kc_X12_again_3 24 rfl) fl_X12_7 (ly_80_2 hL) <| s_iload (dc kc_X12_again_3 25 rfl) rfl <| k_i (dc kc_X12_again_3 26 rfl) rfl <| b_iadd (dc kc_X12_again_3 27 rfl) (by first | omega | (simp [up] <;> omega)) (by first | omega | (simp [up] <;> omega)) <| s_iaload (dc kc_X12_again_3 28 rfl) rfl (by first | omega | (simp [up] <;> omega)) (by first | omega | (simp [up] <;> omega)) <| s_goto (tgt := 271) (dc kc_X12_again_3 29 rfl) rfl <| s_iastore (dc kc_X12_again_3 35 rfl) rfl (by first | omega | (simp [up] <;> omega)) (by first | omega | (simp [up] <;> omega)) <| ?_)))) (fun c227 => (k_i (dc kc_X12_again_3 12 rfl) rfl <| s_goto (tgt := 235) (dc kc_X12_again_3 13 rfl) rfl <| t_i3 (dc kc_X12_again_3 15 rfl) (Nat.le_of_ble_eq_true rfl) rfl <| r_aload_n (dc kc_X12_again_3 16 rfl) rfl <| s_getA (dc kc_X12_again_3 17 rfl) fl_X12_7 (ly_80_2 hL) <| s_iload (dc kc_X12_again_3 18 rfl) rfl <| k_i (dc kc_X12_again_3 19 rfl) rfl <| b_iadd (dc kc_X12_again_3 20 rfl) (by first | omega | (simp [up] <;> omega)) (by first | omega | (simp [up] <;> omega)) <| s_iload (dc kc_X12_again_3 21 rfl) rfl <| s_if_eq (tgt := 261) (dc kc_X12_again_3 22 rfl) rfl (fun c246 => (s_iload (dc kc_X12_again_3 30 rfl) rfl <| s_if_eq (tgt := 270) (dc kc_X12_again_3 31 rfl) rfl (fun c263 => (k_i (dc kc_X12_again_3 34 rfl) rfl <| s_iastore (dc kc_X12_again_3 35 rfl) rfl (by first | omega | (simp [up] <;> omega)) (by first | omega | (simp [up] <;> omega)) <| ?_)) (fun c263 => (k_i (dc kc_X12_again_3 32 rfl) rfl <| s_goto (tgt := 271) (dc kc_X12_again_3 33 rfl) rfl <| s_iastore (dc kc_X12_again_3 35 rfl) rfl (by first | omega | (simp [up] <;> omega)) (by first | omega | (simp [up] <;> omega)) <| ?_)))) (fun c246 => (r_aload_n (dc kc_X12_again_3 23 rfl) rfl <| s_getA (dc kc_X12_again_3 24 rfl) fl_X12_7 (ly_80_2 hL) <| s_iload (dc kc_X12_again_3 25 rfl) rfl <| k_i (dc kc_X12_again_3 26 rfl) rfl <| b_iadd (dc kc_X12_again_3 27 rfl) (by first | omega | (simp [up] <;> omega)) (by first | omega | (simp [up] <;> omega)) <| s_iaload (dc kc_X12_again_3 28 rfl) rfl (by first | omega | (simp [up] <;> omega)) (by first | omega | (simp [up] <;> omega)) <| s_goto (tgt := 271) (dc kc_X12_again_3 29 rfl) rfl <| s_iastore (dc kc_X12_again_3 35 rfl) rfl (by first | omega | (simp [up] <;> omega)) (by first | omega | (simp [up] <;> omega)) <| ?_))))))
                all_goals first | (exfalso; omega) | skip
                · rw [show now = 0 by omega]
                  have := good (by omega) (vI 0)
                  rw [show now = 0 by omega] at this
                  exact this
                · rw [e1k] at c227
                  exact bad (by omega) c227 _ _
                · rw [e1k] at c227
                  have := good (by omega) (vI 1)
                  rw [show now = 1 by omega] at this ⊢
                  exact this
              refine k_i (dc kc_X12_again_2 36 rfl) rfl <| s_icmp_ne (tgt := 209) (dc kc_X12_again_2 37 rfl) rfl (fun c202 => (k_i (dc kc_X12_again_3 0 rfl) rfl <| ?_)) (fun c202 => (k_i (dc kc_X12_again_2 38 rfl) rfl <| s_goto (tgt := 210) (dc kc_X12_again_2 39 rfl) rfl <| ?_))
              · exact fin 0 (by rw [bi_f]; exact fun z => c202 (rcO_2.mpr z))
              · exact fin 1 (by rw [bi_t]; exact rcO_2.mp c202)
          · -- pay
            refine t_i6 (dc kc_X12_again_2 25 rfl) (Nat.le_of_ble_eq_true rfl) rfl <| s_iload (dc kc_X12_again_2 26 rfl) rfl <| s_if_ne (tgt := 209) (dc kc_X12_again_2 27 rfl) rfl (fun c184 => (k_i (dc kc_X12_again_3 0 rfl) rfl <| t_i7 (dc kc_X12_again_3 1 rfl) (Nat.le_of_ble_eq_true rfl) rfl <| s_iload (dc kc_X12_again_3 2 rfl) rfl <| s_if_eq (tgt := 230) (dc kc_X12_again_3 3 rfl) rfl (fun c214 => (k_i (dc kc_X12_again_3 12 rfl) rfl <| s_goto (tgt := 235) (dc kc_X12_again_3 13 rfl) rfl <| t_i3 (dc kc_X12_again_3 15 rfl) (Nat.le_of_ble_eq_true rfl) rfl <| r_aload_n (dc kc_X12_again_3 16 rfl) rfl <| s_getA (dc kc_X12_again_3 17 rfl) fl_X12_7 (ly_80_2 hL) <| s_iload (dc kc_X12_again_3 18 rfl) rfl <| k_i (dc kc_X12_again_3 19 rfl) rfl <| b_iadd (dc kc_X12_again_3 20 rfl) (by first | omega | (simp [up] <;> omega)) (by first | omega | (simp [up] <;> omega)) <| s_iload (dc kc_X12_again_3 21 rfl) rfl <| s_if_eq (tgt := 261) (dc kc_X12_again_3 22 rfl) rfl (fun c246 => (s_iload (dc kc_X12_again_3 30 rfl) rfl <| s_if_eq (tgt := 270) (dc kc_X12_again_3 31 rfl) rfl (fun c263 => (k_i (dc kc_X12_again_3 34 rfl) rfl <| s_iastore (dc kc_X12_again_3 35 rfl) rfl (by first | omega | (simp [up] <;> omega)) (by first | omega | (simp [up] <;> omega)) <| ?_)) (fun c263 => (k_i (dc kc_X12_again_3 32 rfl) rfl <| s_goto (tgt := 271) (dc kc_X12_again_3 33 rfl) rfl <| s_iastore (dc kc_X12_again_3 35 rfl) rfl (by first | omega | (simp [up] <;> omega)) (by first | omega | (simp [up] <;> omega)) <| ?_)))) (fun c246 => (r_aload_n (dc kc_X12_again_3 23 rfl) rfl <| s_getA (dc kc_X12_again_3 24 rfl) fl_X12_7 (ly_80_2 hL) <| s_iload (dc kc_X12_again_3 25 rfl) rfl <| k_i (dc kc_X12_again_3 26 rfl) rfl <| b_iadd (dc kc_X12_again_3 27 rfl) (by first | omega | (simp [up] <;> omega)) (by first | omega | (simp [up] <;> omega)) <| s_iaload (dc kc_X12_again_3 28 rfl) rfl (by first | omega | (simp [up] <;> omega)) (by first | omega | (simp [up] <;> omega)) <| s_goto (tgt := 271) (dc kc_X12_again_3 29 rfl) rfl <| s_iastore (dc kc_X12_again_3 35 rfl) rfl (by first | omega | (simp [up] <;> omega)) (by first | omega | (simp [up] <;> omega)) <| ?_)))) (fun c214 => (r_aload_n (dc kc_X12_again_3 4 rfl) rfl <| s_getA (dc kc_X12_again_3 5 rfl) fl_X12_7 (ly_80_2 hL) <| s_iload (dc kc_X12_again_3 6 rfl) rfl <| k_i (dc kc_X12_again_3 7 rfl) rfl <| b_iadd (dc kc_X12_again_3 8 rfl) (by first | omega | (simp [up] <;> omega)) (by first | omega | (simp [up] <;> omega)) <| s_iaload (dc kc_X12_again_3 9 rfl) rfl (by first | omega | (simp [up] <;> omega)) (by first | omega | (simp [up] <;> omega)) <| k_i (dc kc_X12_again_3 10 rfl) rfl <| s_icmp_ne (tgt := 234) (dc kc_X12_again_3 11 rfl) rfl (fun c227 => (k_i (dc kc_X12_again_3 14 rfl) rfl <| t_i3 (dc kc_X12_again_3 15 rfl) (Nat.le_of_ble_eq_true rfl) rfl <| r_aload_n (dc kc_X12_again_3 16 rfl) rfl <| s_getA (dc kc_X12_again_3 17 rfl) fl_X12_7 (ly_80_2 hL) <| s_iload (dc kc_X12_again_3 18 rfl) rfl <| k_i (dc kc_X12_again_3 19 rfl) rfl <| b_iadd (dc kc_X12_again_3 20 rfl) (by first | omega | (simp [up] <;> omega)) (by first | omega | (simp [up] <;> omega)) <| s_iload (dc kc_X12_again_3 21 rfl) rfl <| s_if_eq (tgt := 261) (dc kc_X12_again_3 22 rfl) rfl (fun c246 => (s_iload (dc kc_X12_again_3 30 rfl) rfl <| s_if_eq (tgt := 270) (dc kc_X12_again_3 31 rfl) rfl (fun c263 => (k_i (dc kc_X12_again_3 34 rfl) rfl <| s_iastore (dc kc_X12_again_3 35 rfl) rfl (by first | omega | (simp [up] <;> omega)) (by first | omega | (simp [up] <;> omega)) <| ?_)) (fun c263 => (k_i (dc kc_X12_again_3 32 rfl) rfl <| s_goto (tgt := 271) (dc kc_X12_again_3 33 rfl) rfl <| s_iastore (dc kc_X12_again_3 35 rfl) rfl (by first | omega | (simp [up] <;> omega)) (by first | omega | (simp [up] <;> omega)) <| ?_)))) (fun c246 => (r_aload_n (dc kc_X12_again_3 23 rfl) rfl <| s_getA (dc kc_X12_again_3 24 rfl) fl_X12_7 (ly_80_2 hL) <| s_iload (dc kc_X12_again_3 25 rfl) rfl <| k_i (dc kc_X12_again_3 26 rfl) rfl <| b_iadd (dc kc_X12_again_3 27 rfl) (by first | omega | (simp [up] <;> omega)) (by first | omega | (simp [up] <;> omega)) <| s_iaload (dc kc_X12_again_3 28 rfl) rfl (by first | omega | (simp [up] <;> omega)) (by first | omega | (simp [up] <;> omega)) <| s_goto (tgt := 271) (dc kc_X12_again_3 29 rfl) rfl <| s_iastore (dc kc_X12_again_3 35 rfl) rfl (by first | omega | (simp [up] <;> omega)) (by first | omega | (simp [up] <;> omega)) <| ?_)))) (fun c227 => (k_i (dc kc_X12_again_3 12 rfl) rfl <| s_goto (tgt := 235) (dc kc_X12_again_3 13 rfl) rfl <| t_i3 (dc kc_X12_again_3 15 rfl) (Nat.le_of_ble_eq_true rfl) rfl <| r_aload_n (dc kc_X12_again_3 16 rfl) rfl <| s_getA (dc kc_X12_again_3 17 rfl) fl_X12_7 (ly_80_2 hL) <| s_iload (dc kc_X12_again_3 18 rfl) rfl <| k_i (dc kc_X12_again_3 19 rfl) rfl <| b_iadd (dc kc_X12_again_3 20 rfl) (by first | omega | (simp [up] <;> omega)) (by first | omega | (simp [up] <;> omega)) <| s_iload (dc kc_X12_again_3 21 rfl) rfl <| s_if_eq (tgt := 261) (dc kc_X12_again_3 22 rfl) rfl (fun c246 => (s_iload (dc kc_X12_again_3 30 rfl) rfl <| s_if_eq (tgt := 270) (dc kc_X12_again_3 31 rfl) rfl (fun c263 => (k_i (dc kc_X12_again_3 34 rfl) rfl <| s_iastore (dc kc_X12_again_3 35 rfl) rfl (by first | omega | (simp [up] <;> omega)) (by first | omega | (simp [up] <;> omega)) <| ?_)) (fun c263 => (k_i (dc kc_X12_again_3 32 rfl) rfl <| s_goto (tgt := 271) (dc kc_X12_again_3 33 rfl) rfl <| s_iastore (dc kc_X12_again_3 35 rfl) rfl (by first | omega | (simp [up] <;> omega)) (by first | omega | (simp [up] <;> omega)) <| ?_)))) (fun c246 => (r_aload_n (dc kc_X12_again_3 23 rfl) rfl <| s_getA (dc kc_X12_again_3 24 rfl) fl_X12_7 (ly_80_2 hL) <| s_iload (dc kc_X12_again_3 25 rfl) rfl <| k_i (dc kc_X12_again_3 26 rfl) rfl <| b_iadd (dc kc_X12_again_3 27 rfl) (by first | omega | (simp [up] <;> omega)) (by first | omega | (simp [up] <;> omega)) <| s_iaload (dc kc_X12_again_3 28 rfl) rfl (by first | omega | (simp [up] <;> omega)) (by first | omega | (simp [up] <;> omega)) <| s_goto (tgt := 271) (dc kc_X12_again_3 29 rfl) rfl <| s_iastore (dc kc_X12_again_3 35 rfl) rfl (by first | omega | (simp [up] <;> omega)) (by first | omega | (simp [up] <;> omega)) <| ?_)))))))) (fun c184 => (?_))
            all_goals first | (exfalso; omega) | skip
            refine nxt _ (p.1, 1) _ _ _ (by unfold agS; rw [hj', if_neg c146, if_pos c172]) (g.up rfl) (by rw [up_j (by decide), e33]) (by rw [up_j (by decide), e82]) ?_
            rw [up_ud, em, ud_same]
      · refine s_iload (dc kc_X12_again_1 26 rfl) rfl <| r_aload_n (dc kc_X12_again_1 27 rfl) rfl <| s_getA (dc kc_X12_again_1 28 rfl) fl_X12_7 (ly_80_2 hL) <| k_i (dc kc_X12_again_1 29 rfl) rfl <| s_iaload (dc kc_X12_again_1 30 rfl) rfl (by first | omega | (simp [up] <;> omega)) (by first | omega | (simp [up] <;> omega)) <| s_icmp_ge (tgt := 278) (dc kc_X12_again_1 31 rfl) rfl (fun c117 => (?_)) (fun c117 => (?_))
        · have hi' : i = (ρ 0 - s - 1).toNat := by omega
          subst hi'
          refine s_iload_n (dc kc_X12_again_3 38 rfl) rfl <| s_if_ne (tgt := 320) (dc kc_X12_again_3 39 rfl) rfl (fun c279 => (r_aload_n (dc kc_X12_again_4 19 rfl) rfl <| k_i (dc kc_X12_again_4 20 rfl) rfl <| s_putI (dc kc_X12_again_4 21 rfl) fl_X12_100 <| r_aload_n (dc kc_X12_again_4 22 rfl) rfl <| s_iload_n (dc kc_X12_again_4 23 rfl) rfl <| c_v1r (dc kc_X12_again_4 24 rfl) cl_X12_96 rfl (Nat.le_of_ble_eq_true rfl) (Nat.zero_le _) (Nat.zero_le _) <| t_tell <| s_ireturn (dc kc_X12_again_4 25 rfl) rfl (Nat.zero_le _) (Nat.zero_le _) ?_)) (fun c279 => (?_))
          · exact hQ4 c10.1 c10.2 (by omega) c41 p ep _ ((g.up rfl).up rfl) (by rw [up_j (by decide), up_j (by decide), em]) (by rw [up_k (by decide), up_at]) (by rw [up_at, if_neg (by omega)])
          · exfalso; omega
        · exfalso; omega
    have cpy : ∀ (i : Nat), i ≤ 3886 → ∀ (m : MI) (x3 x4 x5 x6 x7 : V), Ch pN mi m → m 0 80 33 = mi 0 80 33 → m 0 81 = ρ → m 0 82 = cpF (mi 0 82) ρ 0 0 i → Run (d+7) mt_X12_again Q (n, mr, 0, 0) m 53 [vR (some (0, 80)), vI s, vI (i : Int), x3, x4, x5, x6, x7] [] := by
      refine nloop ?_
      intro i hi ih m x3 x4 x5 x6 x7 g e33 em e82
      by_cases he : i < 3886
      · refine s_iload_n (dc kc_X12_again_0 31 rfl) rfl <| k_s (dc kc_X12_again_0 32 rfl) rfl <| s_icmp_ge (tgt := 78) (dc kc_X12_again_0 33 rfl) rfl (fun c57 => (?_)) (fun c57 => (r_aload_n (dc kc_X12_again_0 34 rfl) rfl <| s_getA (dc kc_X12_again_0 35 rfl) fl_X12_13 (ly_80_3 hL) <| s_iload_n (dc kc_X12_again_0 36 rfl) rfl <| r_aload_n (dc kc_X12_again_0 37 rfl) rfl <| s_getA (dc kc_X12_again_0 38 rfl) fl_X12_7 (ly_80_2 hL) <| s_iload_n (dc kc_X12_again_0 39 rfl) rfl <| s_iaload (dc kc_X12_again_1 0 rfl) rfl (by first | omega | (simp [up] <;> omega)) (by first | omega | (simp [up] <;> omega)) <| s_iastore (dc kc_X12_again_1 1 rfl) rfl (by first | omega | (simp [up] <;> omega)) (by first | omega | (simp [up] <;> omega)) <| b_inc2 (dc kc_X12_again_1 2 rfl) rfl (Nat.le_of_ble_eq_true rfl) rfl (by first | omega | (simp [up] <;> omega)) (by first | omega | (simp [up] <;> omega)) <| s_goto (tgt := 53) (dc kc_X12_again_1 3 rfl) rfl <| ?_))
        · exfalso; omega
        · refine ih he _ _ _ _ _ _ (g.up rfl) (by rw [up_j (by decide), e33]) (by rw [up_j (by decide), em]) ?_
          rw [up_ud, em, e82, show ((i + 1 : Nat) : Int) = (i : Int) + 1 by omega]
          have := cpF_s (f := mi 0 82) (g := ρ) (a := 0) (b := 0) (N := i) (v := ρ i) (by omega) (by rw [Int.zero_add])
          rw [Int.zero_add] at this
          exact this
      · have : i = 3886 := by omega
        subst this
        refine s_iload_n (dc kc_X12_again_0 31 rfl) rfl <| k_s (dc kc_X12_again_0 32 rfl) rfl <| s_icmp_ge (tgt := 78) (dc kc_X12_again_0 33 rfl) rfl (fun c57 => (r_aload_n (dc kc_X12_again_1 4 rfl) rfl <| s_iload_n (dc kc_X12_again_1 5 rfl) rfl <| c_v1 (dc kc_X12_again_1 6 rfl) cl_X12_512 rfl (Nat.le_of_ble_eq_true rfl) (Nat.zero_le _) (Nat.zero_le _) ?_)) (fun c57 => (?_))
        · refine t_takeBack hL (by rw [show cel m = clR ρ by unfold cel; rw [em]]; exact hI0.1) (by rw [em]; exact hW) (by rw [em]; exact h8) (fun m1 g1 e1 => ?_)
          rw [em] at e1
          refine r_aload_n (dc kc_X12_again_1 7 rfl) rfl <| s_getA (dc kc_X12_again_1 8 rfl) fl_X12_7 (ly_80_2 hL) <| k_s (dc kc_X12_again_1 9 rfl) rfl <| k_i (dc kc_X12_again_1 10 rfl) rfl <| s_iload_n (dc kc_X12_again_1 11 rfl) rfl <| k_s (dc kc_X12_again_1 12 rfl) rfl <| b_irem (dc kc_X12_again_1 13 rfl) (by first | omega | (simp [up] <;> omega)) (by first | omega | (simp [up] <;> omega)) <| b_imul (dc kc_X12_again_1 14 rfl) (by first | omega | (simp [up] <;> omega)) (by first | omega | (simp [up] <;> omega)) <| b_iadd (dc kc_X12_again_1 15 rfl) (by first | omega | (simp [up] <;> omega)) (by first | omega | (simp [up] <;> omega)) <| k_i (dc kc_X12_again_1 16 rfl) rfl <| s_iastore (dc kc_X12_again_1 17 rfl) rfl (by first | omega | (simp [up] <;> omega)) (by first | omega | (simp [up] <;> omega)) <| k_i (dc kc_X12_again_1 18 rfl) rfl <| t_i2 (dc kc_X12_again_1 19 rfl) (Nat.le_of_ble_eq_true rfl) rfl <| k_i (dc kc_X12_again_1 20 rfl) rfl <| t_i3 (dc kc_X12_again_1 21 rfl) (Nat.le_of_ble_eq_true rfl) rfl <| s_iload_n (dc kc_X12_again_1 22 rfl) rfl <| k_i (dc kc_X12_again_1 23 rfl) rfl <| b_iadd (dc kc_X12_again_1 24 rfl) (by first | omega | (simp [up] <;> omega)) (by first | omega | (simp [up] <;> omega)) <| t_i4 (dc kc_X12_again_1 25 rfl) (Nat.le_of_ble_eq_true rfl) rfl <| ?_
          have e0 : agF (ag0 ρ s) (s + 1) 0 = some (ag0 ρ s, 0) := rfl
          have := loop 0 (Nat.zero_le _) (up m1 0 81 (246 + 2 * (s % 200)) (-1)) _ x5 x6 x7 ((g.tr (g1.mono (fun _ _ z => by simp [p81, pN] at z ⊢; omega))).up rfl) (by rw [up_j (by decide), g1.at (by decide), e33]) (by rw [up_j (by decide), g1.row (fun _ => rfl), e82]; rfl) e0 (by rw [up_ud, e1]; rfl)
          rw [show s + 1 + ((0 : Nat) : Int) = s + 1 by omega] at this
          exact this
        · exfalso; omega
    exact cpy 0 (Nat.zero_le _) _ _ _ _ _ _ (Ch.rf.up rfl) (by rw [up_k (by decide)]) e81 (by rw [up_j (by decide)]; exact cpF_0.symm)
  · rw [e810] at c10 c30
    rw [e8120] at c41
    exact hQ2 c10.1 c10.2 (Or.inr (by omega)) _ ((Ch.rf.up rfl).up rfl) up_at
  · rw [e810] at c10
    exact hQ1 c10 _ ((Ch.rf.up rfl).up rfl) up_at
end AGU
