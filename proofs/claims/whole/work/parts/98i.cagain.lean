/-! the class: again -/
def pAh (h a b : Nat) (k : Int) : Bool := rlS h a b || pAg h a b k || (a == 0 && b == 0 && k == 3) || (a == 0 && b == 60 && k == 3) || (a == 0 && b == 70 && k == 10)
theorem pAg_unm {G h a b : Nat} {k : Int} (hh : h < G) (z : unm G a b) : pAh h a b k = false := by
  unfold unm at z
  simp [pAh, pAg, pSt, pJ, pW5, pQ, rlS]
  omega
theorem Own.swap {G g h : Nat} {i0 i1 : Option Nat} {mr : MR} (hO : Own G g (some h) i0 i1 mr) : Own G h (some g) i0 i1 (upR (upR mr 0 0 4 (some (h, 5))) 0 0 5 (some (g, 5))) := by
  obtain ⟨a1, a2, a3, a4, a5, a6, a7, a8, a9⟩ := hO
  have hh := a6 h rfl
  refine ⟨by rw [upR_k (by decide), upR_at], by rw [upR_at]; rfl, by rw [upR_a (by simp), upR_a (by simp)]; exact a3, by rw [upR_a (by simp), upR_a (by simp)]; exact a4, hh.1, fun x hx => ?_, fun x hx => ?_, fun x hx => ?_, a9⟩
  · injection hx with hx
    subst hx
    exact ⟨a5, fun z => hh.2 z.symm⟩
  · obtain ⟨b1, b2, b3⟩ := a7 x hx
    exact ⟨b1, fun z => b3 (by rw [z]), fun z => b2 (by injection z with z; exact z.symm)⟩
  · obtain ⟨b1, b2, b3, b4⟩ := a8 x hx
    exact ⟨b1, fun z => b3 (by rw [z]), fun z => b2 (by injection z with z; exact z.symm), b4⟩
section CAI
variable {d n G : Nat} {mr : MR} {Q : V → MI → Nat → MR → Prop}
/-- from where the spare state stands -/
theorem run_again (hL : Lay G mr) {mi : MI} {g h : Nat} {i0 i1 : Option Nat} {ρ : Int → Int} {B s : Int} {kc ks : Nat} {x2 : Int} (hkc : kc ≤ mK mt_X11_again) (hks : ks ≤ mS mt_X11_again) (hO : Own G g (some h) i0 i1 mr) (hn : n = 93 + 37 * G) (hz : Fz n mi mr) (hR : Rep (-1) mi g ρ) (hI : Inv B ρ) (hS1 : TxS mi g) (hS2 : TxS mi (g + 10)) (hs0 : 0 ≤ s) (hs1 : s < ρ 0) (h20 : ρ 20 < s)
    (hQ3 : agF (ag0 ρ s) (s + 1) (ρ 0 - s - 1).toNat = none → ∀ mi' mr', Lay G mr' → Own G g (some h) i0 i1 mr' → Fz n mi' mr' → Cg (pAh h) mi mi' → mi' 0 0 3 = -3 → mi' 0 60 3 = mi 0 60 3 → mi' 0 70 10 = mi 0 70 10 → Cr mr mr' → Q (vI (-3)) mi' n mr')
    (hQ4 : ∀ q, agF (ag0 ρ s) (s + 1) (ρ 0 - s - 1).toNat = some q → ∀ mi' mr', Lay G mr' → Own G h (some g) i0 i1 mr' → Fz n mi' mr' → Cg (pAh h) mi mi' → mi' 0 0 3 = 0 → mi' 0 60 3 = -1 → mi' 0 70 10 = 0 → Rep (-1) mi' h q.1 → TxS mi' h → TxS mi' (h + 10) → Q (vI q.2) mi' n mr') : Run (d+7) mt_X11_again Q (n, mr, kc, ks) mi 73 [vR (some (0, 0)), vI s, vI x2, vX 0, vX 0] [] := by
  have hnow := hO.1
  have hspa : mr 0 0 5 = some (h, 5) := hO.2.1
  have hg := hO.2.2.2.2.1
  have hh := hO.2.2.2.2.2.1 h rfl
  have hG4 := hO.g4
  have h16 := hI.1.2.2.2.2.2.1
  have h17 := hI.1.2.2.2.2.2.2.1
  have h14 := hI.2.2.1.2.2.2.2.1
  obtain ⟨hI0, hW, hC, hB⟩ := id hI
  have h17p : 0 < ρ 17 := by have := hW.2.2.2.1; omega
  have hA0 := ag0_Inv (s := s) hI0.1 hW hI0.2.2.2.1 hC.2.2.2.2.2.2.2.2.2 hs0 h20
  refine r_aload_n (dc kc_X11_again_0 38 rfl) rfl <| s_getO (dc kc_X11_again_0 39 rfl) fl_X11_30 hspa <| r_aload_n (dc kc_X11_again_1 0 rfl) rfl <| s_getO (dc kc_X11_again_1 1 rfl) fl_X11_26 hnow <| c_v1 (dc kc_X11_again_1 2 rfl) cl_X11_318 rfl (Nat.le_of_ble_eq_true rfl) (by first | exact Nat.le_of_ble_eq_true rfl | assumption) (by first | exact Nat.le_of_ble_eq_true rfl | assumption) ?_
  refine u_stateBecome hL hG4.2 hh.1 hg hh.2 hR hS1 hS2 h16.2 h17.2 h14 (fun m1 g1 hR1 t1 t2 => ?_)
  refine r_aload_n (dc kc_X11_again_1 3 rfl) rfl <| r_aload_n (dc kc_X11_again_1 4 rfl) rfl <| s_getO (dc kc_X11_again_1 5 rfl) fl_X11_30 hspa <| s_iload_n (dc kc_X11_again_1 6 rfl) rfl <| c_v2r (dc kc_X11_again_1 7 rfl) cl_X11_321 rfl (Nat.le_of_ble_eq_true rfl) (by first | exact Nat.le_of_ble_eq_true rfl | assumption) (by first | exact Nat.le_of_ble_eq_true rfl | assumption) ?_
  refine u_doAgain hL hG4.2 hh.1 hR1 hI hs0 hs1 h20 (fun hnone m2 r2 g2 c2 => ?_) (fun q hq m2 r2 g2 c2 hR2 => ?_)
  · have gg : Cg (pAh h) mi (up m2 0 0 3 (-3)) := ((g1.mono (P' := pAh h) (fun _ _ _ z => by simp [pAh]; exact Or.inl (Or.inl (Or.inl (Or.inl z))))).tr (g2.mono (fun _ _ _ z => by simp [pAh, z]))).up (by simp [pAh])
    refine t_i3 (dc kc_X11_again_1 8 rfl) (Nat.le_of_ble_eq_true rfl) rfl <| s_iload_n (dc kc_X11_again_1 9 rfl) rfl <| k_i (dc kc_X11_again_1 10 rfl) rfl <| s_icmp_ne (tgt := 106) (dc kc_X11_again_1 11 rfl) rfl (fun c96 => (?_)) (fun c96 => (r_aload_n (dc kc_X11_again_1 12 rfl) rfl <| k_b (dc kc_X11_again_1 13 rfl) rfl <| c_v1r (dc kc_X11_again_1 14 rfl) cl_X11_80 rfl (Nat.le_of_ble_eq_true rfl) (by first | exact Nat.le_of_ble_eq_true rfl | assumption) (by first | exact Nat.le_of_ble_eq_true rfl | assumption) <| u_refuse <| s_ireturn (dc kc_X11_again_1 15 rfl) rfl (by first | exact Nat.le_of_ble_eq_true rfl | assumption) (by first | exact Nat.le_of_ble_eq_true rfl | assumption) ?_))
    · exfalso; omega
    · refine hQ3 hnone _ r2 (c2.lay hL) (hO.cr c2) (hz.cg hG4.1 hG4.2 hn gg (fun a b k z => pAg_unm hh.1 z) (fun a b k z => c2.at (by unfold unm at z; omega) (by unfold unm at z; omega))) gg up_at (by rw [up_j (by decide), g2.at (by simp [pAg, pSt, pJ, pW5, pQ]), g1.at (by simp [rlS])]) (by rw [up_j (by decide), g2.at (by simp [pAg, pSt, pJ, pW5, pQ]), g1.at (by simp [rlS])]) c2
  · have hq2 := (agF_Inv hA0 hs0 h17p hI0.2.2.2.2.2.2.2.2.2 _ q (by omega) hq).2.1
    have hO2 := hO.cr c2
    have hOs := hO2.swap
    have hnow := hO2.1
    have hspa : r2 0 0 5 = some (h, 5) := hO2.2.1
    have k5 : upR r2 0 0 4 (some (h, 5)) 0 0 5 = some (h, 5) := by rw [upR_k (by decide), hspa]
    refine t_i3 (dc kc_X11_again_1 8 rfl) (Nat.le_of_ble_eq_true rfl) rfl <| s_iload_n (dc kc_X11_again_1 9 rfl) rfl <| k_i (dc kc_X11_again_1 10 rfl) rfl <| s_icmp_ne (tgt := 106) (dc kc_X11_again_1 11 rfl) rfl (fun c96 => (r_aload_n (dc kc_X11_again_1 16 rfl) rfl <| s_getO (dc kc_X11_again_1 17 rfl) fl_X11_26 hnow <| t_r4 (dc kc_X11_again_1 18 rfl) (Nat.le_of_ble_eq_true rfl) rfl <| r_aload_n (dc kc_X11_again_1 19 rfl) rfl <| r_aload_n (dc kc_X11_again_1 20 rfl) rfl <| s_getO (dc kc_X11_again_1 21 rfl) fl_X11_30 hspa <| s_pO (dc kc_X11_again_1 22 rfl) fl_X11_26 <| r_aload_n (dc kc_X11_again_1 23 rfl) rfl <| r_aload (dc kc_X11_again_1 24 rfl) rfl <| s_pO (dc kc_X11_again_1 25 rfl) fl_X11_30 <| ?_)) (fun c96 => (?_))
    · skip
      have hL := lay_own (k := 5) (v := some (g, 5)) (Or.inr rfl) (lay_own (k := 4) (v := some (h, 5)) (Or.inl rfl) (c2.lay hL))
      have zr : ∀ a b k, unm G a b → upR (upR r2 0 0 4 (some (h, 5))) 0 0 5 (some (g, 5)) a b k = mr a b k := fun a b k z => by
        rw [upR_a (fun w => by injection w; unfold unm at z; omega), upR_a (fun w => by injection w; unfold unm at z; omega)]
        exact c2.at (by unfold unm at z; omega) (by unfold unm at z; omega)
      generalize upR (upR r2 0 0 4 (some (h, 5))) 0 0 5 (some (g, 5)) = r3 at *
      refine r_aload_n (dc kc_X11_again_1 26 rfl) rfl <| c_v0 (dc kc_X11_again_1 27 rfl) cl_X11_106 rfl (Nat.le_of_ble_eq_true rfl) (by first | exact Nat.le_of_ble_eq_true rfl | assumption) (by first | exact Nat.le_of_ble_eq_true rfl | assumption) <| u_changed hL <| r_aload_n (dc kc_X11_again_1 28 rfl) rfl <| s_iload_n (dc kc_X11_again_1 29 rfl) rfl <| c_v1r (dc kc_X11_again_1 30 rfl) cl_X11_112 rfl (Nat.le_of_ble_eq_true rfl) (by first | exact Nat.le_of_ble_eq_true rfl | assumption) (by first | exact Nat.le_of_ble_eq_true rfl | assumption) <| u_answer <| s_ireturn (dc kc_X11_again_1 31 rfl) rfl (by first | exact Nat.le_of_ble_eq_true rfl | assumption) (by first | exact Nat.le_of_ble_eq_true rfl | assumption) ?_
      have gg : Cg (pAh h) mi (up (up (up m2 0 60 3 (-1)) 0 70 10 0) 0 0 3 0) := ((((g1.mono (P' := pAh h) (fun _ _ _ z => by simp [pAh]; exact Or.inl (Or.inl (Or.inl (Or.inl z))))).tr (g2.mono (fun _ _ _ z => by simp [pAh, z]))).up (by simp [pAh])).up (by simp [pAh])).up (by simp [pAh])
      have tx : ∀ x, TxS m1 x → TxS (up (up (up m2 0 60 3 (-1)) 0 70 10 0) 0 0 3 0) x := fun x t => t.mv (fun b z1 z2 => by rw [up_j (by omega), up_j (by omega), up_j (by omega), g2.row (fun k => by simp [pAg, pSt, pJ, pW5, pQ]; omega)])
      exact hQ4 q hq _ r3 hL hOs (hz.cg hG4.1 hG4.2 hn gg (fun a b k z => pAg_unm hh.1 z) zr) gg up_at (by rw [up_j (by decide), up_j (by decide), up_at]) (by rw [up_j (by decide), up_at]) (hR2.far (fun a b z1 z2 => by rw [up_j (by omega), up_j (by omega), up_j (by omega)])) (tx _ t1) (tx _ t2)
    · exfalso; omega
end CAI
