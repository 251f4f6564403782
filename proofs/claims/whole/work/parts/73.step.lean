/-! the class: one step, steps -/
def pWs (g a b : Nat) (k : Int) : Bool := pQ 0 a b k || (a == g && (b == 41 || b == 42 || b == 43 || (b == 6 && k == 6)))
def pSo (g a b : Nat) (k : Int) : Bool := pQ 0 a b k || pW5 0 a b k || pTo g a b k || pLt g a b k || (a == g && (b == 41 || b == 42 || b == 43 || b == 6))
theorem pWs_pSo {g a b : Nat} {k : Int} (z : pWs g a b k = true) : pSo g a b k = true := by
  simp [pWs] at z
  simp [pSo]
  rcases z with z | z
  · exact Or.inl (Or.inl (Or.inl (Or.inl z)))
  · exact Or.inr (by omega)
section STP
variable {d n G : Nat} {mr : MR} {Q : V → MI → Nat → MR → Prop}
theorem u_watchStep (hL : Lay G mr) {g : Nat} (hnow : mr 0 0 4 = some (g, 5)) (hg : g < G) {mi : MI} {B : Int} {ρ : Int → Int} (hI : Inv B ρ) (h17 : 0 < ρ 17) (hR : Rep 7 mi g (stp5 ρ)) (ho : (mi 0 55 1 = 0 ∨ mi 0 55 1 = 1) ↔ (rcS ρ = 1 ∨ rcS ρ = 2)) (hQ : ∀ mi' mr', Cg (pWs g) mi mi' → Cr mr mr' → Rep 7 mi' g (stp7 ρ) → Q (vX 0) mi' n mr') : Tx (d+5) mt_X11_watchStep [vR (some (0, 0)), vI (ρ 0), vI (ρ 7)] mi n mr Q := by
  have hok : okI G 5 g := hg
  have hok2 : okI G 20 g := Or.inl hg
  have hok3 : okI G 15 g := Or.inl hg
  have hok4 : okI G 40 g := hg
  obtain ⟨hI0, hIW, hIC, hB⟩ := id hI
  have h00 := hI0.2.1
  have h16 := hI0.2.2.2.2.2.1
  have h17' := hI0.2.2.2.2.2.2.1
  have hwf : WfR ρ := ⟨hI0.2.2.2.2.2.2.2.2.1, hI0.2.2.2.2.2.2.2.2.2⟩
  have s5 : ∀ k, (k = 16 ∨ k = 17 ∨ (11 ≤ k ∧ k ≤ 13) ∨ 2046 ≤ k ∨ (110 ≤ k ∧ k < 146)) → stp5 ρ k = ρ k := fun k hk => stp5_off hI0 h17 (by omega)
  have hhi : hiEq ρ (stp5 ρ) := fun k hk => s5 k (by omega)
  have hV5 := stp5_VC hI0 h17
  obtain ⟨rW, rL, rN, rJ, rS, rH, rC⟩ := id hR
  have e200 : mi g 20 0 = ρ 16 := by rw [rL.1, s5 16 (by omega)]
  generalize hN : (ρ 16).toNat = N at *
  have hN16 : (N : Int) = ρ 16 := by omega
  refine tx_intro (ls := [vR (some (0, 0)), vI (ρ 0), vI (ρ 7), vX 0, vX 0]) om_X11_watchStep rfl (Nat.le_of_ble_eq_true rfl) ?_
  refine r_aload_n (dc kc_X11_watchStep_0 0 rfl) rfl <| s_getO (dc kc_X11_watchStep_0 1 rfl) fl_X11_47 (ly_0_8 hL) <| r_aload_n (dc kc_X11_watchStep_0 2 rfl) rfl <| s_getO (dc kc_X11_watchStep_0 3 rfl) fl_X11_26 hnow <| s_getO (dc kc_X11_watchStep_0 4 rfl) fl_X11_140 (ly_5_0 hL (by assumption)) <| s_getA (dc kc_X11_watchStep_0 5 rfl) fl_X11_144 (ly_15_0 hL (by assumption)) <| c_v1 (dc kc_X11_watchStep_0 6 rfl) cl_X11_149 rfl (Nat.le_of_ble_eq_true rfl) (Nat.zero_le _) (Nat.zero_le _) ?_
  refine u_rbegin ?_
  have hR0 : Cr mr (upR mr 0 50 0 (some (g, 16))) := Cr.rf.cel (fun z => by first | rfl | omega)
  have hcel : upR mr 0 50 0 (some (g, 16)) 0 50 0 = some (g, 16) := upR_at
  have hL1 := hR0.lay hL
  have hnow1 : upR mr 0 50 0 (some (g, 16)) 0 0 4 = some (g, 5) := by rw [hR0.at (by decide) (by decide)]; exact hnow
  generalize upR mr 0 50 0 (some (g, 16)) = mr1 at *
  have hL := hL1
  have hnow := hnow1
  have g0 : Cg (pWs g) mi (up (up mi 0 50 3 0) 0 50 4 0) := (Cg.rf.up (by simp [pWs, pQ])).up (by simp [pWs, pQ])
  have f3 : up (up mi 0 50 3 0) 0 50 4 0 0 50 3 = 0 := by rw [up_k (by decide), up_at]
  have fr : ∀ a b, b ≠ 50 → up (up mi 0 50 3 0) 0 50 4 0 a b = mi a b := fun a b z => by rw [up_j z, up_j z]
  generalize up (up mi 0 50 3 0) 0 50 4 0 = m0 at *
  have hcl : ag (clR (stp5 ρ)) (clG m0 g) := fun i a b => by
    show m0 g 16 i = _
    rw [fr g 16 (by decide)]; exact rW.1 i a b
  have hVm : VC (clG m0 g) := hV5.ag hcl
  have hK : ∀ l, 0 ≤ l → l < m0 g 20 0 → LwT m0 g l (lawC ρ l) := fun l a b => by
    rw [fr g 20 (by decide), e200] at b
    have h1 := (rL.2 l a (by rw [s5 16 (by omega)]; exact b)).1
    rw [lawC_hi hhi a (fun z => ((hwf.1 l a b).2.2.1 z).1)] at h1
    unfold LwT at h1 ⊢
    rw [fr g 21 (by decide), fr g 22 (by decide), fr g 25 (by decide)]
    exact h1
  have e0N : m0 g 20 0 = (N : Int) := by rw [fr g 20 (by decide), e200, hN16]
  refine r_aload_n (dc kc_X11_watchStep_0 7 rfl) rfl <| s_getO (dc kc_X11_watchStep_0 8 rfl) fl_X11_47 (ly_0_8 hL) <| r_aload_n (dc kc_X11_watchStep_0 9 rfl) rfl <| s_getO (dc kc_X11_watchStep_0 10 rfl) fl_X11_26 hnow <| s_getO (dc kc_X11_watchStep_0 11 rfl) fl_X11_84 (ly_5_1 hL (by assumption)) <| c_v1r (dc kc_X11_watchStep_0 12 rfl) cl_X11_221 rfl (Nat.le_of_ble_eq_true rfl) (Nat.zero_le _) (Nat.zero_le _) ?_
  refine u_brokenLaws hL (by decide) hok2 hcel hVm (by omega) (by omega) hK (L0 := []) (by rw [f3]; exact Bm.nil) (fun m1 g1 => ?_)
  rw [e0N, Int.toNat_natCast]
  have hH : ∀ l, 0 ≤ l → l < ρ 16 → valA (clG m0 g) (lawC ρ l) = hS ρ l := fun l a b => valA_ag hV5 hcl (hwf.1 l a b).2.2.2
  have hH01 : ∀ l, 0 ≤ l → l < ρ 16 → hS ρ l = 0 ∨ hS ρ l = 1 := fun l a b => (law_ev hV5 (hwf.1 l a b).2.2.2).2.1
  have hbb : ∀ l : Int, 0 ≤ l → l < 32 → (bAnd (bShr (brkF (fun l => valA (clG m0 g) (lawC ρ l)) N) l) 1 = 0 ↔ ¬ (l < N ∧ hS ρ l = 0)) := fun l a b => by
    rw [brkF_bit (by omega) a b]
    constructor
    · intro h z; exact h ⟨z.1, by show valA (clG m0 g) (lawC ρ l) = 0; rw [hH l a (by omega)]; exact z.2⟩
    · intro h z; exact h ⟨z.1, by rw [← hH l a (by omega)]; exact z.2⟩
  generalize brkF (fun l => valA (clG m0 g) (lawC ρ l)) N = bk at *
  have fr1 : ∀ a b, b ≠ 50 → b ≠ 52 → b ≠ 53 → m1 a b = mi a b := fun a b z1 z2 z3 => by rw [g1.row (fun k => by simp [pQ]; omega), fr a b z1]
  have g1' : Cg (pWs g) mi m1 := g0.tr (g1.mono (fun _ _ _ z => by simp [pWs, z]))
  have e1N : m1 g 20 0 = (N : Int) := by rw [fr1 g 20 (by decide) (by decide) (by decide), e200, hN16]
  refine t_i3 (dc kc_X11_watchStep_0 13 rfl) (Nat.le_of_ble_eq_true rfl) rfl <| r_aload_n (dc kc_X11_watchStep_0 14 rfl) rfl <| s_getO (dc kc_X11_watchStep_0 15 rfl) fl_X11_26 hnow <| s_getO (dc kc_X11_watchStep_0 16 rfl) fl_X11_97 (ly_5_4 hL (by assumption)) <| s_iload_n (dc kc_X11_watchStep_0 17 rfl) rfl <| s_iload_n (dc kc_X11_watchStep_0 18 rfl) rfl <| r_aload_n (dc kc_X11_watchStep_0 19 rfl) rfl <| s_getO (dc kc_X11_watchStep_0 20 rfl) fl_X11_26 hnow <| s_getO (dc kc_X11_watchStep_0 21 rfl) fl_X11_84 (ly_5_1 hL (by assumption)) <| s_getI (dc kc_X11_watchStep_0 22 rfl) fl_X11_109 <| c_v3 (dc kc_X11_watchStep_0 23 rfl) cl_X11_225 rfl (Nat.le_of_ble_eq_true rfl) (Nat.zero_le _) (Nat.zero_le _) ?_
  rw [e1N]
  refine u_noteBroken hL hg (ρ := stp5 ρ) (H := hS ρ) (by omega) (fun l a b => ?_) (fun l a b => by rw [fr1 g 41 (by decide) (by decide) (by decide), fr1 g 42 (by decide) (by decide) (by decide)]; exact ⟨(rH.2.2.2.2 l a b).1, (rH.2.2.2.2 l a b).2.1⟩) (fun m2 g2 h2 => ?_)
  · have := hH01 l a (by omega)
    rw [hbb l a (by omega)]
    constructor
    · intro h
      rcases this with z | z
      · exact absurd ⟨by omega, z⟩ h
      · exact z
    · intro h z; omega
  have e6 : f1 (stp5 ρ) (ρ 0) (hS ρ) (N : Int) = stp6 ρ := by unfold stp6; rw [hN16]
  rw [e6] at h2
  have fr2 : ∀ a b, b ≠ 50 → b ≠ 52 → b ≠ 53 → b ≠ 41 → b ≠ 42 → m2 a b = mi a b := fun a b z1 z2 z3 z4 z5 => by rw [g2.row (fun k => by simp; omega), fr1 a b z1 z2 z3]
  have g2' : Cg (pWs g) mi m2 := g1'.tr (g2.mono (fun a b k z => by simp at z; simp [pWs]; omega))
  refine r_aload_n (dc kc_X11_watchStep_0 24 rfl) rfl <| s_getO (dc kc_X11_watchStep_0 25 rfl) fl_X11_26 hnow <| s_iload_n (dc kc_X11_watchStep_0 26 rfl) rfl <| s_iload_n (dc kc_X11_watchStep_0 27 rfl) rfl <| r_aload_n (dc kc_X11_watchStep_0 28 rfl) rfl <| s_getO (dc kc_X11_watchStep_0 29 rfl) fl_X11_54 (ly_0_9 hL) <| s_getI (dc kc_X11_watchStep_0 30 rfl) fl_X11_228 <| c_v3r (dc kc_X11_watchStep_0 31 rfl) cl_X11_231 rfl (Nat.le_of_ble_eq_true rfl) (Nat.zero_le _) (Nat.zero_le _) ?_
  rw [fr2 0 55 (by decide) (by decide) (by decide) (by decide) (by decide)]
  refine u_lawsToAsk hL hg (σ := stp5 ρ) (ρ := ρ) (rL.mv (fun b z1 z2 => fr2 g b (by omega) (by omega) (by omega) (by omega) (by omega))) (rN.mv (fun b z1 z2 => fr2 (g + 10) b (by omega) (by omega) (by omega) (by omega) (by omega))) (by rw [fr2 g 40 (by decide) (by decide) (by decide) (by decide) (by decide), rH.1, s5 11 (by omega)]) (by rw [fr2 g 40 (by decide) (by decide) (by decide) (by decide) (by decide), rH.2.1, s5 12 (by omega)]) (fun z => by rw [fr2 g 40 (by decide) (by decide) (by decide) (by decide) (by decide), rH.2.2.1 (by rw [s5 12 (by omega)]; exact z), s5 13 (by omega)]) (fun z => by rw [fr2 g 40 (by decide) (by decide) (by decide) (by decide) (by decide), rH.2.2.2.1 (by rw [s5 12 (by omega)]; exact z)]) h16 ⟨h17, h17'.2⟩ (s5 16 (by omega)) (s5 17 (by omega)) hhi hwf h00 ⟨hI0.2.2.1.1, hI0.2.2.1.2 h17⟩ hIC.2.2.1 hIC.2.2.2.2.2.2.1 ho (fun x hx0 hx1 => ?_)
  have h6r : rg (stp5 ρ 6) := by
    have e5 : stp5 ρ 6 = ρ 6 := by
      rw [stp5_low hI0 h17 (by omega), stp4_low (by omega), stp3_cl2 hI0 h17 (by omega)]
      exact lnR_off hI0.1 (hwf.2 _ hI0.2.2.1.1 (hI0.2.2.1.2 h17)) hI0.2.2.2.1.1 hI0.2.2.2.1.2 (by omega)
    rw [e5]
    exact hIC.1 6 (by omega) (by omega)
  -- a mask of what is asked
  obtain ⟨A, hA01, hxM, h7⟩ : ∃ A : Int → Int, (∀ l, A l = 0 ∨ A l = 1) ∧ AskM x A N ∧ stp7 ρ = (fun i => if i = 6 then (if cnt A N = 0 then stp6 ρ 6 else w32 (stp6 ρ 6 + cnt A N)) else f2 (stp6 ρ) (ρ 0) (hS ρ) A N i) := by
    by_cases hr : rstI ρ = 1
    · refine ⟨fun _ => 0, fun _ => Or.inl rfl, ?_, ?_⟩
      · rw [hx0 hr]
        refine ⟨⟨by decide, by decide⟩, fun l a b => ?_⟩
        rw [bit1 a b, tB_0]
        exact ⟨fun h => (by cases h), fun h => absurd h.2 (show ¬ (0 : Int) = 1 by decide)⟩
      · have hc0 : ∀ k : Nat, cnt (fun _ => 0) k = 0 := by
          intro k
          induction k with
          | zero => rfl
          | succ k ih => rw [cnt, ih]; rfl
        unfold stp7
        rw [if_pos hr, hc0, if_pos rfl]
        funext i
        by_cases ei : i = 6
        · rw [if_pos ei, ei]
        · rw [if_neg ei]
          unfold f2
          rw [if_neg ei, if_neg (fun z => absurd z.2.2.1.1 (show ¬ (0 : Int) = 1 by decide))]
    · refine ⟨aS ρ, aS01, by rw [← hN]; exact hx1 hr, ?_⟩
      unfold stp7
      rw [if_neg hr, hN]
      funext i
      by_cases ei : i = 6
      · rw [if_pos ei, ei]; unfold f2; rw [if_pos rfl]
      · rw [if_neg ei]
  have e66 : stp6 ρ 6 = stp5 ρ 6 := by unfold stp6; exact f1_off (by omega)
  have e606 : m2 g 6 6 = stp5 ρ 6 := by rw [fr2 g 6 (by decide) (by decide) (by decide) (by decide) (by decide)]; exact rC.1 6 (by omega) (by omega) (by omega)
  refine t_i4 (dc kc_X11_watchStep_0 32 rfl) (Nat.le_of_ble_eq_true rfl) rfl <| r_aload_n (dc kc_X11_watchStep_0 33 rfl) rfl <| s_getO (dc kc_X11_watchStep_0 34 rfl) fl_X11_26 hnow <| s_getA (dc kc_X11_watchStep_0 35 rfl) fl_X11_118 (ly_5_5 hL (by assumption)) <| k_b (dc kc_X11_watchStep_0 36 rfl) rfl <| s_dup2 (dc kc_X11_watchStep_0 37 rfl) rfl rfl <| s_iaload (dc kc_X11_watchStep_0 38 rfl) rfl (by first | omega | (simp [up] <;> omega)) (by first | omega | (simp [up] <;> omega)) <| s_iload (dc kc_X11_watchStep_0 39 rfl) rfl <| c_s1r (dc kc_X11_watchStep_1 0 rfl) cl_X11_235 rfl (Nat.le_of_ble_eq_true rfl) (Nat.zero_le _) (Nat.zero_le _) ?_
  refine u_bitCount ?_
  rw [bc_cnt hxM.1 (by omega) hxM.2 hA01]
  refine s_iadd (dc kc_X11_watchStep_1 1 rfl) <| s_iastore (dc kc_X11_watchStep_1 2 rfl) rfl (by first | omega | (simp [up] <;> omega)) (by first | omega | (simp [up] <;> omega)) <| r_aload_n (dc kc_X11_watchStep_1 3 rfl) rfl <| s_getO (dc kc_X11_watchStep_1 4 rfl) fl_X11_26 hnow <| s_getO (dc kc_X11_watchStep_1 5 rfl) fl_X11_97 (ly_5_4 hL (by assumption)) <| s_iload_n (dc kc_X11_watchStep_1 6 rfl) rfl <| s_iload (dc kc_X11_watchStep_1 7 rfl) rfl <| s_iload_n (dc kc_X11_watchStep_1 8 rfl) rfl <| s_iand (dc kc_X11_watchStep_1 9 rfl) <| c_v2 (dc kc_X11_watchStep_1 10 rfl) cl_X11_240 rfl (Nat.le_of_ble_eq_true rfl) (Nat.zero_le _) (Nat.zero_le _) ?_
  rw [e606]
  have h7at6 : stp7 ρ 6 = w32 (stp5 ρ 6 + cnt A N) := by
    rw [h7]
    simp only [if_true, ↓reduceIte]
    rw [e66]
    split
    · rename_i z; rw [z, Int.add_zero, w32_id h6r.1 h6r.2]
    · rfl
  have fr3 : ∀ v a b, b ≠ 50 → b ≠ 52 → b ≠ 53 → b ≠ 41 → b ≠ 42 → b ≠ 6 → up m2 g 6 6 v a b = mi a b := fun v a b z1 z2 z3 z4 z5 z6 => by rw [up_j z6]; exact fr2 a b z1 z2 z3 z4 z5
  have h643 : ∀ l, 0 ≤ l → l < 12 → stp6 ρ (110 + 3 * l + 2) = stp5 ρ (110 + 3 * l + 2) := fun l a b => by unfold stp6; exact f1_off (by omega)
  refine u_noteSeen hL hg (ρ := stp6 ρ) (H := hS ρ) (A := A) (N := N) (by omega) h00 hA01 (fun l a b => ?_) (fun l a b => by rw [up_j (by decide), up_j (by decide), up_j (by decide), fr2 g 43 (by decide) (by decide) (by decide) (by decide) (by decide), (rH.2.2.2.2 l a b).2.2, h643 l a b]; exact ⟨(h2 l a b).1, (h2 l a b).2, rfl⟩) (fun m3 g3 h3 => ?_)
  · have q1 := hxM.2 l a (by omega)
    have q2 := hbb l a (by omega)
    rw [bit1 a (by omega)] at q1
    rw [bit0 a (by omega)] at q2
    rw [bit1 a (by omega), tB_and, Bool.and_eq_true, q1]
    have q3 : tB bk l.toNat = true ↔ l < N ∧ hS ρ l = 0 := by
      cases hq : tB bk l.toNat with
      | true => exact ⟨fun _ => Classical.byContradiction fun z => (by rw [q2.mpr z] at hq; cases hq), fun _ => rfl⟩
      | false => exact ⟨fun z => (by cases z), fun z => absurd z (q2.mp hq)⟩
    rw [q3]
    constructor
    · rintro ⟨z1, z2⟩; exact ⟨z1.1, z1.2, by omega⟩
    · rintro ⟨z1, z2, z3⟩
      have := hH01 l a (by omega)
      exact ⟨⟨z1, z2⟩, z1, by omega⟩
  · refine s_return (dc kc_X11_watchStep_1 11 rfl) rfl (Nat.zero_le _) (Nat.zero_le _) ?_
    have fr4 : ∀ a b, b ≠ 50 → b ≠ 52 → b ≠ 53 → b ≠ 41 → b ≠ 42 → b ≠ 43 → b ≠ 6 → m3 a b = mi a b := fun a b z1 z2 z3 z4 z5 z6 z7 => by rw [g3.row (fun k => by simp; omega)]; exact fr3 _ a b z1 z2 z3 z4 z5 z7
    have h7o : ∀ k, k ≠ 6 → (k < 110 ∨ 146 ≤ k) → stp7 ρ k = stp5 ρ k := fun k z1 z2 => stp7_off ⟨z1, z2⟩ h16
    have hh7 : ∀ l, 0 ≤ l → l < 12 → m3 g 41 l = stp7 ρ (110 + 3 * l) ∧ m3 g 42 l = stp7 ρ (110 + 3 * l + 1) ∧ m3 g 43 l = stp7 ρ (110 + 3 * l + 2) := fun l a b => by
      rw [h7]
      simp only []
      rw [if_neg (by omega), if_neg (by omega), if_neg (by omega)]
      exact h3 l a b
    have g36 : m3 g 6 = up m2 g 6 6 (w32 (stp5 ρ 6 + cnt A N)) g 6 := g3.row (fun k => by simp)
    have hwf5 : WfR (stp5 ρ) := hwf.hi (s5 16 (by omega)) (s5 17 (by omega)) hhi
    have h58 : stp5 ρ 8 ≤ 200 := (lotR_8 (stp4_8 hI0 h17).1 (stp4_8 hI0 h17).2).2
    refine hQ m3 mr1 ((g2'.up (by simp [pWs])).tr (g3.mono (fun a b k z => by simp at z; simp [pWs]; omega))) hR0 ⟨(rW.row (fun k hk => h7o k (by omega) (by omega))).mv (fr4 g 16 (by decide) (by decide) (by decide) (by decide) (by decide) (by decide) (by decide)) (by rw [fr4 g 15 (by decide) (by decide) (by decide) (by decide) (by decide) (by decide) (by decide)]), (rL.row hwf5.1 (h7o 16 (by omega) (by omega)) (fun k hk => h7o k (by omega) (by omega))).mv (fun b z1 z2 => fr4 g b (by omega) (by omega) (by omega) (by omega) (by omega) (by omega) (by omega)), (rN.row hwf5.2 (h7o 17 (by omega) (by omega)) (fun k hk => h7o k (by omega) (by omega))).mv (fun b z1 z2 => fr4 (g + 10) b (by omega) (by omega) (by omega) (by omega) (by omega) (by omega) (by omega)), (rJ.row h58 (fun k hk => h7o k (by omega) (by omega))).mv (fun b z1 z2 => fr4 g b (by omega) (by omega) (by omega) (by omega) (by omega) (by omega) (by omega)), (rS.row (fun k z1 z2 => h7o k (by omega) (by omega))).mv (fr4 g 37 (by decide) (by decide) (by decide) (by decide) (by decide) (by decide) (by decide)) (fr4 g 38 (by decide) (by decide) (by decide) (by decide) (by decide) (by decide) (by decide)), ?_, ?_⟩
    · have f40 := fr4 g 40 (by decide) (by decide) (by decide) (by decide) (by decide) (by decide) (by decide)
      refine ⟨by rw [f40, h7o 11 (by omega) (by omega)]; exact rH.1, by rw [f40, h7o 12 (by omega) (by omega)]; exact rH.2.1, by rw [f40, h7o 12 (by omega) (by omega), h7o 13 (by omega) (by omega)]; exact rH.2.2.1, by rw [f40, h7o 12 (by omega) (by omega)]; exact rH.2.2.2.1, hh7⟩
    · obtain ⟨a1, a2, a3, a4, a5, a6, a7, a8, a9⟩ := id rC
      refine ⟨fun k a b c => ?_, fun i a b => by rw [fr4 g 7 (by decide) (by decide) (by decide) (by decide) (by decide) (by decide) (by decide), h7o _ (by omega) (by omega)]; exact a2 i a b, fun i a b => by rw [fr4 g 8 (by decide) (by decide) (by decide) (by decide) (by decide) (by decide) (by decide), h7o _ (by omega) (by omega)]; exact a3 i a b, fun i a b => by rw [fr4 g 9 (by decide) (by decide) (by decide) (by decide) (by decide) (by decide) (by decide), h7o _ (by omega) (by omega)]; exact a4 i a b, fun i a b => by rw [fr4 g 10 (by decide) (by decide) (by decide) (by decide) (by decide) (by decide) (by decide), h7o _ (by omega) (by omega)]; exact a5 i a b, by rw [fr4 g 5 (by decide) (by decide) (by decide) (by decide) (by decide) (by decide) (by decide), h7o _ (by omega) (by omega)]; exact a6, by rw [fr4 g 5 (by decide) (by decide) (by decide) (by decide) (by decide) (by decide) (by decide), h7o _ (by omega) (by omega)]; exact a7, by rw [fr4 g 5 (by decide) (by decide) (by decide) (by decide) (by decide) (by decide) (by decide), h7o _ (by omega) (by omega)]; exact a8, by rw [fr4 g 5 (by decide) (by decide) (by decide) (by decide) (by decide) (by decide) (by decide), h7o _ (by omega) (by omega)]; exact a9⟩
      rw [g36, up_ud]
      by_cases ek : k = 6
      · rw [ek, ud_at, h7at6]
      · rw [ud_ne ek, fr2 g 6 (by decide) (by decide) (by decide) (by decide) (by decide), h7o k ek (by omega)]
        exact a1 k a b c
/-- one step of the class is one step of the row -/
theorem u_stepOnce (hL : Lay G mr) {g : Nat} (hnow : mr 0 0 4 = some (g, 5)) (hg : g < G) {mi : MI} {B : Int} {ρ : Int → Int} (hI : Inv B ρ) (h17 : 0 < ρ 17) (hR : Rep (-1) mi g ρ) (hQ : ∀ mi' mr', Cg (pSo g) mi mi' → Cr mr mr' → Rep (-1) mi' g (stpR ρ) → Q (vX 0) mi' n mr') : Tx (d+6) mt_X11_stepOnce [vR (some (0, 0))] mi n mr Q := by
  have hok : okI G 5 g := hg
  have hok3 : okI G 15 g := Or.inl hg
  have hok5 : okI G 20 (g + 10) := Or.inr (Or.inl ⟨by omega, by omega⟩)
  obtain ⟨hI0, hIW, hIC, hB⟩ := id hI
  obtain ⟨rW, rL, rN, rJ, rS, rH, rC⟩ := id hR
  have h00 := hI0.2.1
  have h7 := hI0.2.2.1
  have h7' := h7.2 h17
  have h16 := hI0.2.2.2.2.2.1
  have h17' := hI0.2.2.2.2.2.2.1
  have hwf : WfR ρ := ⟨hI0.2.2.2.2.2.2.2.2.1, hI0.2.2.2.2.2.2.2.2.2⟩
  have e60 : mi g 6 0 = ρ 0 := rC.1 0 (by omega) (by omega) (by omega)
  have e67 : mi g 6 7 = ρ 7 := rC.1 7 (by omega) (by omega) (by omega)
  have hcl : ag (clR ρ) (clG mi g) := fun i a b => rW.1 i a b
  refine tx_intro (ls := [vR (some (0, 0)), vX 0, vX 0]) om_X11_stepOnce rfl (Nat.le_of_ble_eq_true rfl) ?_
  refine r_aload_n (dc kc_X11_stepOnce_0 0 rfl) rfl <| s_getO (dc kc_X11_stepOnce_0 1 rfl) fl_X11_26 hnow <| s_getA (dc kc_X11_stepOnce_0 2 rfl) fl_X11_118 (ly_5_5 hL (by assumption)) <| k_i (dc kc_X11_stepOnce_0 3 rfl) rfl <| s_iaload (dc kc_X11_stepOnce_0 4 rfl) rfl (by first | omega | (simp [up] <;> omega)) (by first | omega | (simp [up] <;> omega)) <| t_i1 (dc kc_X11_stepOnce_0 5 rfl) (Nat.le_of_ble_eq_true rfl) rfl <| r_aload_n (dc kc_X11_stepOnce_0 6 rfl) rfl <| s_getO (dc kc_X11_stepOnce_0 7 rfl) fl_X11_26 hnow <| s_getA (dc kc_X11_stepOnce_0 8 rfl) fl_X11_118 (ly_5_5 hL (by assumption)) <| k_b (dc kc_X11_stepOnce_0 9 rfl) rfl <| s_iaload (dc kc_X11_stepOnce_0 10 rfl) rfl (by first | omega | (simp [up] <;> omega)) (by first | omega | (simp [up] <;> omega)) <| t_i2 (dc kc_X11_stepOnce_0 11 rfl) (Nat.le_of_ble_eq_true rfl) rfl <| r_aload_n (dc kc_X11_stepOnce_0 12 rfl) rfl <| s_getO (dc kc_X11_stepOnce_0 13 rfl) fl_X11_54 (ly_0_9 hL) <| r_aload_n (dc kc_X11_stepOnce_0 14 rfl) rfl <| s_getO (dc kc_X11_stepOnce_0 15 rfl) fl_X11_26 hnow <| s_getO (dc kc_X11_stepOnce_0 16 rfl) fl_X11_115 (ly_5_2 hL (by assumption)) <| s_iload_n (dc kc_X11_stepOnce_0 17 rfl) rfl <| r_aload_n (dc kc_X11_stepOnce_0 18 rfl) rfl <| s_getO (dc kc_X11_stepOnce_0 19 rfl) fl_X11_26 hnow <| s_getO (dc kc_X11_stepOnce_0 20 rfl) fl_X11_140 (ly_5_0 hL (by assumption)) <| c_v3 (dc kc_X11_stepOnce_0 21 rfl) cl_X11_206 rfl (Nat.le_of_ble_eq_true rfl) (Nat.zero_le _) (Nat.zero_le _) ?_
  rw [e60, e67]
  refine u_perform hL (by decide) hok5 hok3 (hI0.1.ag hcl) h7.1 (by rw [rN.1]; exact h7') (by rw [rN.1]; exact h17'.2) (rN.2 _ h7.1 h7') (fun m1 mr1 g1 R1 hW => ?_)
  have hlin := (hwf.2 _ h7.1 h7').2.2
  rw [lnA_ag hI0.1 hcl hlin, rW.2] at hW
  have fr1 : ∀ a b, b ≠ 50 → b ≠ 52 → b ≠ 53 → b ≠ 55 → m1 a b = mi a b := fun a b z1 z2 z3 z4 => g1.row (fun k => by simp [pW5, pQ]; omega)
  have hR1 : Rep (-1) m1 g ρ := hR.mv (fun a b z => by simp [rlS] at z; exact fr1 a b (by omega) (by omega) (by omega) (by omega))
  have hL1 := R1.lay hL
  have hnow1 : mr1 0 0 4 = some (g, 5) := by rw [R1.at (by decide) (by decide)]; exact hnow
  have hL := hL1
  have hnow := hnow1
  refine r_aload_n (dc kc_X11_stepOnce_0 22 rfl) rfl <| s_getO (dc kc_X11_stepOnce_0 23 rfl) fl_X11_26 hnow <| s_iload_n (dc kc_X11_stepOnce_0 24 rfl) rfl <| s_iload_n (dc kc_X11_stepOnce_0 25 rfl) rfl <| r_aload_n (dc kc_X11_stepOnce_0 26 rfl) rfl <| s_getO (dc kc_X11_stepOnce_0 27 rfl) fl_X11_54 (ly_0_9 hL) <| c_v3 (dc kc_X11_stepOnce_0 28 rfl) cl_X11_210 rfl (Nat.le_of_ble_eq_true rfl) (Nat.zero_le _) (Nat.zero_le _) ?_
  refine u_takeOutcome hL hg hR1 hI h17 hW (fun m2 g2 r2 => ?_)
  refine r_aload_n (dc kc_X11_stepOnce_0 29 rfl) rfl <| s_getO (dc kc_X11_stepOnce_0 30 rfl) fl_X11_26 hnow <| s_iload_n (dc kc_X11_stepOnce_0 31 rfl) rfl <| c_v1 (dc kc_X11_stepOnce_0 32 rfl) cl_X11_214 rfl (Nat.le_of_ble_eq_true rfl) (Nat.zero_le _) (Nat.zero_le _) ?_
  have e0 : stp4 ρ 0 = ρ 0 := stp4_off hI0 h17 (by omega)
  have s4 : ∀ k, k = 16 ∨ k = 17 ∨ 2046 ≤ k → stp4 ρ k = ρ k := fun k hk => stp4_off hI0 h17 (by omega)
  have hwf4 : WfR (stp4 ρ) := hwf.hi (s4 16 (by omega)) (s4 17 (by omega)) (fun k hk => s4 k (by omega))
  have h419 : rg (stp4 ρ 19) := by
    rw [stp4_low (by omega), stp3_cl2 hI0 h17 (by omega)]
    unfold stp1 lnR
    split
    · exact mkR_rg
    · exact hIC.2.2.2.2.2.2.2.2.2
  refine u_flipByLots hL hg e0.symm (by decide) r2 (stp4_InvW hI0 hIW h17) (stp4_VC hI0 h17) hwf4 (stp4_8 hI0 h17) (by rw [e0]; exact h00.1) h419 (by rw [stp4_off hI0 h17 (by omega)]; exact hI0.2.2.2.2.1) (fun m3 g3 r3 => ?_)
  have k55 : m3 0 55 1 = m1 0 55 1 := by rw [g3.at (by simp [pLt, pSt, pJ]), g2.at (by simp [pTo, pSt, pJ])]
  have hrg : 0 ≤ (lnO ρ (ρ 7)).1 ∧ (lnO ρ (ρ 7)).1 ≤ 3 := lnA_rg (c := clR ρ) (t := tgtOf ρ (ρ 7)) (p := lnP ρ (ρ 7)) (v := lnV ρ (ρ 7)) (w := lnT ρ (ρ 7))
  have ho : (m3 0 55 1 = 0 ∨ m3 0 55 1 = 1) ↔ (rcS ρ = 1 ∨ rcS ρ = 2) := by
    rw [k55]
    have hrc : ∀ x, (lnO ρ (ρ 7)).1 = x → rcS ρ = (if x = 0 then 1 else if x = 1 then 2 else if x = 2 then 3 else 4) := fun x hx => by unfold rcS rcO; rw [hx]
    have hW' : Wk (lnO ρ (ρ 7)) (ρ 19) m1 0 := hW
    have hc : (lnO ρ (ρ 7)).1 = 0 ∨ (lnO ρ (ρ 7)).1 = 1 ∨ (lnO ρ (ρ 7)).1 = 2 ∨ (lnO ρ (ρ 7)).1 = 3 := by omega
    rcases hc with ho | ho | ho | ho
    · have h1 := hW'.1 ho; have er : rcS ρ = 1 := by rw [hrc 0 ho]; rfl
      omega
    · have h1 := hW'.2.1 ho; have er : rcS ρ = 2 := by rw [hrc 1 ho]; rfl
      omega
    · have h1 := (hW'.2.2.1 ho).1; have er : rcS ρ = 3 := by rw [hrc 2 ho]; rfl
      omega
    · have h := (hW'.2.2.2 ho).1; have er : rcS ρ = 4 := by rw [hrc 3 ho]; rfl
      split at h <;> omega
  refine r_aload_n (dc kc_X11_stepOnce_0 33 rfl) rfl <| s_iload_n (dc kc_X11_stepOnce_0 34 rfl) rfl <| s_iload_n (dc kc_X11_stepOnce_0 35 rfl) rfl <| c_v2 (dc kc_X11_stepOnce_0 36 rfl) cl_X11_217 rfl (Nat.le_of_ble_eq_true rfl) (Nat.zero_le _) (Nat.zero_le _) ?_
  refine u_watchStep hL hnow hg hI h17 r3 ho (fun m4 mr4 g4 R4 r4 => ?_)
  have hL4 := R4.lay hL
  have hnow4 : mr4 0 0 4 = some (g, 5) := by rw [R4.at (by decide) (by decide)]; exact hnow
  have hL := hL4
  have hnow := hnow4
  obtain ⟨qW, qL, qN, qJ, qS, qH, qC⟩ := id r4
  have h70 : stp7 ρ 0 = ρ 0 := by rw [stp7_off (by omega) h16]; exact stp5_off hI0 h17 (by omega)
  have k0 : m4 g 6 0 = ρ 0 := by rw [qC.1 0 (by omega) (by omega) (by omega), h70]
  have s7 : ∀ k, k = 16 ∨ k = 17 ∨ 2046 ≤ k → stp7 ρ k = ρ k := fun k hk => by rw [stp7_off (by omega) h16]; exact stp5_off hI0 h17 (by omega)
  have hwf7 : WfR (stp7 ρ) := hwf.hi (s7 16 (by omega)) (s7 17 (by omega)) (fun k hk => s7 k (by omega))
  have k17 : ∀ v, up m4 g 6 0 v (g + 10) 20 0 = ρ 17 := fun v => by rw [up_j (by decide), qN.1, s7 17 (by omega)]
  have h78 : stp7 ρ 8 ≤ 200 := by rw [stp7_off (by omega) h16]; exact (lotR_8 (stp4_8 hI0 h17).1 (stp4_8 hI0 h17).2).2
  have gg : Cg (pSo g) mi m4 := (((g1.mono (fun _ _ _ z => by simp [pSo, z])).tr (g2.mono (fun _ _ _ z => by simp [pSo, z]))).tr (g3.mono (fun _ _ _ z => by simp [pSo, z]))).tr (g4.mono (fun _ _ _ z => pWs_pSo z))
  have RR : Cr mr mr4 := R1.tr R4
  have fin : ∀ v, v = (ρ 7 + 1) % ρ 17 → Q (vX 0) (up (up m4 g 6 0 (ρ 0 + 1)) g 6 7 v) n mr4 := by
    intro v ev
    refine hQ _ mr4 ((gg.up (by simp [pSo])).up (by simp [pSo])) RR ?_
    have r5 := r4.cnt (k := 0) (v := ρ 0 + 1) hwf7 h78 (by omega) (by omega)
    have es : ud (stp7 ρ) 0 (ρ 0 + 1) = stpR ρ := rfl
    rw [es] at r5
    obtain ⟨pW, pL', pN', pJ', pS', pH', pC'⟩ := r5
    have h57 : stpR ρ 7 = (ρ 7 + 1) % ρ 17 := by
      unfold stpR
      rw [ud_ne (by omega), stp7_off (by omega) h16, stp5_low hI0 h17 (by omega), stp4_low (by omega)]
      have h2 : stp2 ρ 7 = (ρ 7 + 1) % ρ 17 := by unfold stp2; rw [inc_off (by omega), inc_off (by omega), ud_at]
      have e18 := stp2_off hI0 h17 (k := 18) (by omega)
      have h18 := hI0.2.2.2.2.2.2.2.1
      unfold stp3
      split
      · unfold payR
        split
        · rw [inc_off (by omega), ud_ne (by omega)]; unfold payB; rw [inc_off (by omega), inc_off (by omega), h2]
        · unfold payB; rw [inc_off (by omega), inc_off (by omega), h2]
      · exact h2
    refine ⟨pW.mv (up_j (by decide)) (by rw [up_j (by decide)]), pL'.mv (fun b z1 z2 => up_j (by omega)), pN'.mv (fun b z1 z2 => up_j (by omega)), pJ'.mv (fun b z1 z2 => up_j (by omega)), pS'.mv (up_j (by decide)) (up_j (by decide)), pH'.mv (fun b z1 z2 => up_j (by omega)), ?_⟩
    obtain ⟨a1, a2, a3, a4, a5, a6, a7, a8, a9⟩ := pC'
    refine ⟨fun k a b c => ?_, fun i a b => by rw [up_j (by decide)]; exact a2 i a b, fun i a b => by rw [up_j (by decide)]; exact a3 i a b, fun i a b => by rw [up_j (by decide)]; exact a4 i a b, fun i a b => by rw [up_j (by decide)]; exact a5 i a b, by rw [up_j (by decide)]; exact a6, by rw [up_j (by decide)]; exact a7, by rw [up_j (by decide)]; exact a8, by rw [up_j (by decide)]; exact a9⟩
    by_cases ek : k = 7
    · rw [ek, up_at, ev, h57]
    · rw [up_k ek]; exact a1 k a b ek
  refine r_aload_n (dc kc_X11_stepOnce_0 37 rfl) rfl <| s_getO (dc kc_X11_stepOnce_0 38 rfl) fl_X11_26 hnow <| s_getA (dc kc_X11_stepOnce_0 39 rfl) fl_X11_118 (ly_5_5 hL (by assumption)) <| k_i (dc kc_X11_stepOnce_1 0 rfl) rfl <| s_dup2 (dc kc_X11_stepOnce_1 1 rfl) rfl rfl <| s_iaload (dc kc_X11_stepOnce_1 2 rfl) rfl (by first | omega | (simp [up] <;> omega)) (by first | omega | (simp [up] <;> omega)) <| k_i (dc kc_X11_stepOnce_1 3 rfl) rfl <| b_iadd (dc kc_X11_stepOnce_1 4 rfl) (by first | omega | (simp [up] <;> omega)) (by first | omega | (simp [up] <;> omega)) <| s_iastore (dc kc_X11_stepOnce_1 5 rfl) rfl (by first | omega | (simp [up] <;> omega)) (by first | omega | (simp [up] <;> omega)) <| r_aload_n (dc kc_X11_stepOnce_1 6 rfl) rfl <| s_getO (dc kc_X11_stepOnce_1 7 rfl) fl_X11_26 hnow <| s_getA (dc kc_X11_stepOnce_1 8 rfl) fl_X11_118 (ly_5_5 hL (by assumption)) <| k_b (dc kc_X11_stepOnce_1 9 rfl) rfl <| s_iload_n (dc kc_X11_stepOnce_1 10 rfl) rfl <| k_i (dc kc_X11_stepOnce_1 11 rfl) rfl <| b_iadd (dc kc_X11_stepOnce_1 12 rfl) (by first | omega | (simp [up] <;> omega)) (by first | omega | (simp [up] <;> omega)) <| r_aload_n (dc kc_X11_stepOnce_1 13 rfl) rfl <| s_getO (dc kc_X11_stepOnce_1 14 rfl) fl_X11_26 hnow <| s_getO (dc kc_X11_stepOnce_1 15 rfl) fl_X11_115 (ly_5_2 hL (by assumption)) <| s_getI (dc kc_X11_stepOnce_1 16 rfl) fl_X11_109 <| s_icmp_ge (tgt := 114) (dc kc_X11_stepOnce_1 17 rfl) rfl (fun c105 => (k_i (dc kc_X11_stepOnce_1 22 rfl) rfl <| s_iastore (dc kc_X11_stepOnce_1 23 rfl) rfl (by first | omega | (simp [up] <;> omega)) (by first | omega | (simp [up] <;> omega)) <| s_return (dc kc_X11_stepOnce_1 24 rfl) rfl (Nat.zero_le _) (Nat.zero_le _) ?_)) (fun c105 => (s_iload_n (dc kc_X11_stepOnce_1 18 rfl) rfl <| k_i (dc kc_X11_stepOnce_1 19 rfl) rfl <| b_iadd (dc kc_X11_stepOnce_1 20 rfl) (by first | omega | (simp [up] <;> omega)) (by first | omega | (simp [up] <;> omega)) <| s_goto (tgt := 115) (dc kc_X11_stepOnce_1 21 rfl) rfl <| s_iastore (dc kc_X11_stepOnce_1 23 rfl) rfl (by first | omega | (simp [up] <;> omega)) (by first | omega | (simp [up] <;> omega)) <| s_return (dc kc_X11_stepOnce_1 24 rfl) rfl (Nat.zero_le _) (Nat.zero_le _) ?_))
  · rw [k0] at c105 ⊢
    rw [k17] at c105
    exact fin 0 (by rw [show ρ 7 + 1 = ρ 17 by omega, Int.emod_self])
  · rw [k0] at c105 ⊢
    rw [k17] at c105
    exact fin _ (by rw [Int.emod_eq_of_lt (by omega) (by omega)])
end STP
