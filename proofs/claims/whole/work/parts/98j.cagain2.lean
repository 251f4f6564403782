/-! the class: again, from its start -/
theorem Own.sp {G g : Nat} {i0 i1 : Option Nat} {mr : MR} (hO : Own G g none i0 i1 mr) : Own (G + 1) g (some G) i0 i1 (upR mr 0 0 5 (some (G, 5))) := by
  obtain ⟨a1, a2, a3, a4, a5, a6, a7, a8, a9⟩ := hO
  refine ⟨by rw [upR_k (by decide)]; exact a1, by rw [upR_at]; rfl, by rw [upR_a (by simp)]; exact a3, by rw [upR_a (by simp)]; exact a4, by omega, fun x hx => ?_, fun x hx => ?_, fun x hx => ?_, by rw [a9]; simp [one]; omega⟩
  · injection hx with hx
    subst hx
    exact ⟨by omega, by omega⟩
  · obtain ⟨b1, b2, b3⟩ := a7 x hx
    exact ⟨by omega, b2, fun z => by injection z with z; omega⟩
  · obtain ⟨b1, b2, b3, b4⟩ := a8 x hx
    exact ⟨by omega, b2, fun z => by injection z with z; omega, b4⟩
section CAJ
variable {d n G : Nat} {mr : MR} {Q : V → MI → Nat → MR → Prop}
theorem u_cagain (hL : Lay G mr) {mi : MI} {g : Nat} {sp i0 i1 : Option Nat} {ρ : Int → Int} {B s : Int} (hO : Own G g sp i0 i1 mr) (hn : n = 93 + 37 * G) (hz : Fz n mi mr) (hR : Rep (-1) mi g ρ) (hI : Inv B ρ) (hS1 : TxS mi g) (hS2 : TxS mi (g + 10))
    (hQ1 : ¬ (0 ≤ s ∧ s < ρ 0) → Q (vI (-1)) (up mi 0 0 3 (-1)) n mr)
    (hQ2 : 0 ≤ s → s < ρ 0 → (s < ρ 0 - 200 ∨ s ≤ ρ 20) → Q (vI (-3)) (up mi 0 0 3 (-3)) n mr)
    (hQ3 : 0 ≤ s → s < ρ 0 → ρ 0 - 200 ≤ s → ρ 20 < s → agF (ag0 ρ s) (s + 1) (ρ 0 - s - 1).toNat = none → ∀ mi' mr' G' n' h, Lay G' mr' → n' = 93 + 37 * G' → Own G' g (some h) i0 i1 mr' → Fz n' mi' mr' → Cg (pAh h) mi mi' → mi' 0 0 3 = -3 → mi' 0 60 3 = mi 0 60 3 → mi' 0 70 10 = mi 0 70 10 → (mr 2 50 0 = some (0, 63) → mr' 2 50 0 = some (0, 63)) → Q (vI (-3)) mi' n' mr')
    (hQ4 : 0 ≤ s → s < ρ 0 → ρ 0 - 200 ≤ s → ρ 20 < s → ∀ q, agF (ag0 ρ s) (s + 1) (ρ 0 - s - 1).toNat = some q → ∀ mi' mr' G' n' h, Lay G' mr' → n' = 93 + 37 * G' → Own G' h (some g) i0 i1 mr' → Fz n' mi' mr' → Cg (pAh h) mi mi' → mi' 0 0 3 = 0 → mi' 0 60 3 = -1 → mi' 0 70 10 = 0 → Rep (-1) mi' h q.1 → TxS mi' h → TxS mi' (h + 10) → Q (vI q.2) mi' n' mr') : Tx (d+7) mt_X11_again [vR (some (0, 0)), vI s] mi n mr Q := by
  have hnow := hO.1
  have hspa := hO.2.1
  have hg := hO.2.2.2.2.1
  have hok : okI G 5 g := hg
  have hG4 := hO.g4
  have h0 := hI.1.2.1
  have e60 := hR.2.2.2.2.2.2.1 0 (by decide) (by decide) (by decide)
  have e302 := hR.2.2.2.1.2.2.1
  refine tx_intro (ls := [vR (some (0, 0)), vI s, vX 0, vX 0, vX 0]) om_X11_again rfl (Nat.le_of_ble_eq_true rfl) ?_
  refine r_aload_n (dc kc_X11_again_0 0 rfl) rfl <| s_getO (dc kc_X11_again_0 1 rfl) fl_X11_26 hnow <| s_getA (dc kc_X11_again_0 2 rfl) fl_X11_118 (ly_5_5 hL (by assumption)) <| k_i (dc kc_X11_again_0 3 rfl) rfl <| s_iaload (dc kc_X11_again_0 4 rfl) rfl (by first | omega | (simp [up] <;> omega)) (by first | omega | (simp [up] <;> omega)) <| t_i2 (dc kc_X11_again_0 5 rfl) (Nat.le_of_ble_eq_true rfl) rfl <| s_iload_n (dc kc_X11_again_0 6 rfl) rfl <| s_if_lt (tgt := 19) (dc kc_X11_again_0 7 rfl) rfl (fun c11 => (r_aload_n (dc kc_X11_again_0 11 rfl) rfl <| k_i (dc kc_X11_again_0 12 rfl) rfl <| c_v1r (dc kc_X11_again_0 13 rfl) cl_X11_80 rfl (Nat.le_of_ble_eq_true rfl) (by first | exact Nat.le_of_ble_eq_true rfl | assumption) (by first | exact Nat.le_of_ble_eq_true rfl | assumption) <| u_refuse <| s_ireturn (dc kc_X11_again_0 14 rfl) rfl (by first | exact Nat.le_of_ble_eq_true rfl | assumption) (by first | exact Nat.le_of_ble_eq_true rfl | assumption) ?_)) (fun c11 => (s_iload_n (dc kc_X11_again_0 8 rfl) rfl <| s_iload_n (dc kc_X11_again_0 9 rfl) rfl <| s_icmp_lt (tgt := 25) (dc kc_X11_again_0 10 rfl) rfl (fun c16 => (s_iload_n (dc kc_X11_again_0 15 rfl) rfl <| s_iload_n (dc kc_X11_again_0 16 rfl) rfl <| k_s (dc kc_X11_again_0 17 rfl) rfl <| b_isub (dc kc_X11_again_0 18 rfl) (by first | omega | (simp [up] <;> omega)) (by first | omega | (simp [up] <;> omega)) <| s_icmp_lt (tgt := 48) (dc kc_X11_again_0 19 rfl) rfl (fun c31 => (r_aload_n (dc kc_X11_again_0 26 rfl) rfl <| k_b (dc kc_X11_again_0 27 rfl) rfl <| c_v1r (dc kc_X11_again_0 28 rfl) cl_X11_80 rfl (Nat.le_of_ble_eq_true rfl) (by first | exact Nat.le_of_ble_eq_true rfl | assumption) (by first | exact Nat.le_of_ble_eq_true rfl | assumption) <| u_refuse <| s_ireturn (dc kc_X11_again_0 29 rfl) rfl (by first | exact Nat.le_of_ble_eq_true rfl | assumption) (by first | exact Nat.le_of_ble_eq_true rfl | assumption) ?_)) (fun c31 => (r_aload_n (dc kc_X11_again_0 20 rfl) rfl <| s_getO (dc kc_X11_again_0 21 rfl) fl_X11_26 hnow <| s_getO (dc kc_X11_again_0 22 rfl) fl_X11_127 (ly_5_3 hL (by assumption)) <| s_iload_n (dc kc_X11_again_0 23 rfl) rfl <| c_v1r (dc kc_X11_again_0 24 rfl) cl_X11_312 rfl (Nat.le_of_ble_eq_true rfl) (by first | exact Nat.le_of_ble_eq_true rfl | assumption) (by first | exact Nat.le_of_ble_eq_true rfl | assumption) <| u_isKeptFrom <| s_if_neb (tgt := 55) (dc kc_X11_again_0 25 rfl) rfl (fun c45 => (?_)) (fun c45 => (r_aload_n (dc kc_X11_again_0 26 rfl) rfl <| k_b (dc kc_X11_again_0 27 rfl) rfl <| c_v1r (dc kc_X11_again_0 28 rfl) cl_X11_80 rfl (Nat.le_of_ble_eq_true rfl) (by first | exact Nat.le_of_ble_eq_true rfl | assumption) (by first | exact Nat.le_of_ble_eq_true rfl | assumption) <| u_refuse <| s_ireturn (dc kc_X11_again_0 29 rfl) rfl (by first | exact Nat.le_of_ble_eq_true rfl | assumption) (by first | exact Nat.le_of_ble_eq_true rfl | assumption) ?_)))))) (fun c16 => (r_aload_n (dc kc_X11_again_0 11 rfl) rfl <| k_i (dc kc_X11_again_0 12 rfl) rfl <| c_v1r (dc kc_X11_again_0 13 rfl) cl_X11_80 rfl (Nat.le_of_ble_eq_true rfl) (by first | exact Nat.le_of_ble_eq_true rfl | assumption) (by first | exact Nat.le_of_ble_eq_true rfl | assumption) <| u_refuse <| s_ireturn (dc kc_X11_again_0 14 rfl) rfl (by first | exact Nat.le_of_ble_eq_true rfl | assumption) (by first | exact Nat.le_of_ble_eq_true rfl | assumption) ?_))))
  · exact hQ1 (fun z => by omega)
  · exact hQ2 (by omega) (by omega) (by omega)
  · have k0 : 0 ≤ s := by omega
    have k1 : s < ρ 0 := by omega
    have k2 : ρ 0 - 200 ≤ s := by omega
    have k3 : ρ 20 < s := by omega
    cases sp with
    | none =>
      have hO' := hO.sp
      have hG' := hO'.g4
      obtain ⟨nb0, nb1, nb2⟩ := nm_blk hG4.1 (by omega) hn
      have z0 := fun k => hz.at (N := 0) nb0 (Nat.le_refl _) (by omega) k
      refine r_aload_n (dc kc_X11_again_0 30 rfl) rfl <| s_getO (dc kc_X11_again_0 31 rfl) fl_X11_30 hspa <| s_ifnonnull (tgt := 73) (dc kc_X11_again_0 32 rfl) rfl (fun c59 => (r_aload_n (dc kc_X11_again_0 33 rfl) rfl <| s_new (j := 5) (dc kc_X11_again_0 34 rfl) (by first | assumption | rfl) rfl (by decide) rfl (by first | decide | omega) ?_ kk_X11_23 in_X7 it_X7 (Nat.le_of_ble_eq_true rfl) (Nat.le_of_ble_eq_true rfl) <| s_dup (dc kc_X11_again_0 35 rfl) rfl <| c_i0 (dc kc_X11_again_0 36 rfl) cl_X11_25 (Nat.le_of_ble_eq_true rfl) (Nat.le_of_ble_eq_true rfl) (Nat.le_of_ble_eq_true rfl) ?_)) (fun a59 c59 => (?_))
      · exact hz.fr (by omega)
      · refine i_state (i0 := n) (fun i a b k => hz i (by omega) b k) nb0 (by omega) (by omega) nb1 ⟨(z0 _).1, (z0 _).1, (z0 _).1, (z0 _).1⟩ (fun m1 r1 g1 si cs sl zf => ?_)
        have hL1 : Lay (G + 1) (upR r1 0 0 5 (some (G, 5))) := lay_own (Or.inr rfl) (hL.ext sl cs)
        have hO1 : Own (G + 1) g (some G) i0 i1 (upR r1 0 0 5 (some (G, 5))) := (hO.cs cs).sp
        have hR1 : Rep (-1) m1 g ρ := hR.mv (fun a b z => g1.row (fun k => by
          simp [rlS] at z
          simp [rlS]
          omega))
        have hT1 : TxS m1 g := hS1.mv (fun b z1 z2 => g1.row (fun k => by simp [rlS]; omega))
        have hT2 : TxS m1 (g + 10) := hS2.mv (fun b z1 z2 => g1.row (fun k => by simp [rlS]; omega))
        have zf1 : Fz (n + 1 + 36) m1 (upR r1 0 0 5 (some (G, 5))) := zf.mv (i0 := 0) (a := (0, 0)) rfl (by omega) (fun _ _ _ _ => rfl) (fun _ _ _ h => upR_a h) (Nat.le_refl _)
        have e50 : mr 2 50 0 = some (0, 63) → upR r1 0 0 5 (some (G, 5)) 2 50 0 = some (0, 63) := fun z => by rw [upR_a (by simp), (cs 2 50 0).resolve_left (by simp [rlR])]; exact z
        have gm : Cg (pAh G) mi m1 := g1.mono (fun _ _ _ z => by simp [pAh]; exact Or.inl (Or.inl (Or.inl (Or.inl z))))
        have e63 : m1 0 60 3 = mi 0 60 3 := g1.at (by simp [rlS])
        have e70 : m1 0 70 10 = mi 0 70 10 := g1.at (by simp [rlS])
        refine s_pO (dc kc_X11_again_0 37 rfl) fl_X11_30 <| ?_
        generalize upR r1 0 0 5 (some (G, 5)) = r2 at *
        refine run_again hL1 (Nat.le_of_ble_eq_true rfl) (Nat.le_of_ble_eq_true rfl) hO1 (by omega) zf1 hR1 hI hT1 hT2 k0 k1 k3 (fun hnone m2 r3 l3 o3 z3 g3 a1 a2 a3 c3 => ?_) (fun q hq m2 r3 l3 o3 z3 g3 a1 a2 a3 rr t1 t2 => ?_)
        · exact hQ3 k0 k1 k2 k3 hnone m2 r3 (G + 1) _ G l3 (by omega) o3 z3 (gm.tr g3) a1 (by rw [a2, e63]) (by rw [a3, e70]) (fun z => c3.m2 (e50 z))
        · exact hQ4 k0 k1 k2 k3 q hq m2 r3 (G + 1) _ G l3 (by omega) o3 z3 (gm.tr g3) a1 a2 a3 rr t1 t2
      · exact absurd c59 (by simp [adO])
    | some h =>
      have hspa : mr 0 0 5 = some (h, 5) := hspa
      refine r_aload_n (dc kc_X11_again_0 30 rfl) rfl <| s_getO (dc kc_X11_again_0 31 rfl) fl_X11_30 hspa <| s_ifnonnull (tgt := 73) (dc kc_X11_again_0 32 rfl) rfl (fun c59 => (?_)) (fun a59 c59 => (?_))
      · cases c59
      · refine run_again hL (Nat.zero_le _) (Nat.zero_le _) hO hn hz hR hI hS1 hS2 k0 k1 k3 (fun hnone m2 r3 l3 o3 z3 g3 a1 a2 a3 c3 => ?_) (fun q hq m2 r3 l3 o3 z3 g3 a1 a2 a3 rr t1 t2 => ?_)
        · exact hQ3 k0 k1 k2 k3 hnone m2 r3 G n h l3 hn o3 z3 g3 a1 a2 a3 (fun z => c3.m2 z)
        · exact hQ4 k0 k1 k2 k3 q hq m2 r3 G n h l3 hn o3 z3 g3 a1 a2 a3 rr t1 t2
  · exact hQ2 (by omega) (by omega) (by omega)
  · exact hQ1 (fun z => by omega)
end CAJ
