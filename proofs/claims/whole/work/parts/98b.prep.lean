/-! the class: all faults put in, and putIn -/
def pPp (a b : Nat) (k : Int) : Bool := pGo a b k || pQ 3 a b k || (a == 0 && (b == 72 || b == 73 || (b == 70 && (k == 7 || k == 8 || k == 10))))
/-- what the paper keeps of a row -/
def PpK (mi : MI) (ρ : Int → Int) : Prop := mi 0 70 10 = 0 ∨ ((1 ≤ mi 0 70 10 ∧ mi 0 70 10 ≤ 24) ∧ ∀ w, 0 ≤ w → w < 4 → mi 0 73 w = cntC ρ (mi 0 70 10).toNat w 24)
theorem cntV_skip {ρ : Int → Int} {n : Nat} {w c : Int} {i : Nat} : ∀ m : Nat, (∀ k : Nat, i ≤ k → k < i + m → biC c ((k : Int) - 1) ≠ 1) → cntV ρ n w c (i + m) = cntV ρ n w c i
  | 0, _ => rfl
  | m + 1, h => by
    rw [show i + (m + 1) = (i + m) + 1 by omega, cntV, if_neg (fun z => h (i + m) (by omega) (by omega) z.1.1), Int.add_zero]
    exact cntV_skip m (fun k a b => h k a (by omega))
theorem pPp_rl {mi m : MI} {g : Nat} (hg : g < 4) (h : Cg pPp mi m) : ∀ a b, rlS g a b = true → m a b = mi a b := fun a b z => h.row (fun k => by
  simp [rlS] at z
  simp [pPp, pGo, pW5, pQ]
  omega)
section PRE
variable {d n G : Nat} {mr : MR} {Q : V → MI → Nat → MR → Prop}
theorem u_prepare (hL : Lay G mr) {mi : MI} {g : Nat} {ρ : Int → Int} {B x : Int} (hG : G ≤ 4) (hg : g < G) (hR : Rep (-1) mi g ρ) (hI : Inv B ρ) (hx0 : 1 ≤ x) (hx : x ≤ 24) (h17 : ρ 17 ≠ 0) (hK : PpK mi ρ) (hQ : ∀ mi' mr', Cg pPp mi mi' → Cr mr mr' → mi' 0 70 10 = x → (∀ w, 0 ≤ w → w < 4 → mi' 0 73 w = cntC ρ x.toNat w 24) → Q (vX 0) mi' n mr') : Tx (d+7) mt_X5_prepare [vR (some (0, 70)), vR (some (g, 5)), vI x] mi n mr Q := by
  have hok : okI G 5 g := hg
  have hok9 : okI G 15 9 := Or.inr rfl
  have hokg : okI G 15 g := Or.inl hg
  have hokL : okI G 20 g := Or.inl hg
  obtain ⟨hI0, hW, hC, hB⟩ := id hI
  obtain ⟨hV, h0, h7, h8, h10, h16, h17', h18, hlw, hln⟩ := hI0
  have h7p := h7.2 (by omega)
  refine tx_intro (ls := [vR (some (0, 70)), vR (some (g, 5)), vI x, vX 0, vX 0]) om_X5_prepare rfl (Nat.le_of_ble_eq_true rfl) ?_
  by_cases hkn : mi 0 70 10 = x
  · refine r_aload_n (dc kc_X5_prepare_0 0 rfl) rfl <| s_getI (dc kc_X5_prepare_0 1 rfl) fl_X5_55 <| s_iload_n (dc kc_X5_prepare_0 2 rfl) rfl <| s_icmp_ne (tgt := 9) (dc kc_X5_prepare_0 3 rfl) rfl (fun c5 => (?_)) (fun c5 => (s_return (dc kc_X5_prepare_0 4 rfl) rfl (Nat.zero_le _) (Nat.zero_le _) ?_))
    · exfalso; omega
    · refine hQ mi mr Cg.rf Cr.rf hkn ?_
      rcases hK with z | z
      · omega
      · rw [hkn] at z; exact z.2
  · refine r_aload_n (dc kc_X5_prepare_0 0 rfl) rfl <| s_getI (dc kc_X5_prepare_0 1 rfl) fl_X5_55 <| s_iload_n (dc kc_X5_prepare_0 2 rfl) rfl <| s_icmp_ne (tgt := 9) (dc kc_X5_prepare_0 3 rfl) rfl (fun c5 => (r_aload_n (dc kc_X5_prepare_0 5 rfl) rfl <| s_iload_n (dc kc_X5_prepare_0 6 rfl) rfl <| s_putI (dc kc_X5_prepare_0 7 rfl) fl_X5_55 <| r_aload_n (dc kc_X5_prepare_0 8 rfl) rfl <| s_getA (dc kc_X5_prepare_0 9 rfl) fl_X5_52 (ly_70_9 hL) <| k_i (dc kc_X5_prepare_0 10 rfl) rfl <| c_s2 (dc kc_X5_prepare_0 11 rfl) cl_X5_58 rfl (Nat.le_of_ble_eq_true rfl) (Nat.zero_le _) (Nat.zero_le _) ?_)) (fun c5 => (?_))
    · skip
      refine u_fill_73 (fun m1 g1 f1 => ?_)
      have e70 : m1 0 70 10 = x := by rw [g1.at (by simp), up_at]
      have gg1 : Cg pPp mi m1 := (Cg.rf.up (by simp [pPp])).tr (g1.mono (fun _ _ _ z => by simp at z; simp [pPp, z]))
      clear g1
      refine r_aload_n (dc kc_X5_prepare_0 12 rfl) rfl <| s_getO (dc kc_X5_prepare_0 13 rfl) fl_X5_28 (ly_70_2 hL) <| r_aload_n (dc kc_X5_prepare_0 14 rfl) rfl <| s_getO (dc kc_X5_prepare_0 15 rfl) fl_X5_64 (ly_5_0 hL (by assumption)) <| c_v1 (dc kc_X5_prepare_0 16 rfl) cl_X5_67 rfl (Nat.le_of_ble_eq_true rfl) (Nat.zero_le _) (Nat.zero_le _) ?_
      refine u_webBecome hL hok9 hokg (fun m2 g2 f2 f2m => ?_)
      have gg2 : Cg pPp mi m2 := gg1.tr (g2.mono (fun _ _ _ z => by simp at z; simp [pPp, pGo]; omega))
      have rl1 := pPp_rl (by omega : g < 4) gg1
      have rl2 := pPp_rl (by omega : g < 4) gg2
      have hR2 : Rep (-1) m2 g ρ := hR.mv rl2
      have hR1 : Rep (-1) m1 g ρ := hR.mv rl1
      have e270 : m2 0 70 10 = x := by rw [g2.at (by simp), e70]
      have e273 : ∀ i, 0 ≤ i → i < 4 → m2 0 73 i = 0 := fun i a b => by rw [g2.at (by simp)]; exact f1 i a b
      refine r_aload_n (dc kc_X5_prepare_0 17 rfl) rfl <| r_aload_n (dc kc_X5_prepare_0 18 rfl) rfl <| s_iload_n (dc kc_X5_prepare_0 19 rfl) rfl <| c_v2 (dc kc_X5_prepare_0 20 rfl) cl_X5_71 rfl (Nat.le_of_ble_eq_true rfl) (Nat.zero_le _) (Nat.zero_le _) ?_
      refine u_goOn (σ := ρ) hL hG hg (by omega) hx hR2.2.2.1 (hR2.2.2.2.2.2.2.1 7 (by omega) (by omega) (by omega)) hV ⟨h7.1, h7p⟩ h17'.2 h8 hln (fun i a b => by rw [f2 i a b]; exact hR1.1.1 i a b) (by rw [f2m]; exact hR1.1.2) (fun m3 mr3 g3 hr3 hS3 => ?_)
      have hL0 := hL
      have hL := hr3.lay hL
      have gg3 : Cg pPp mi m3 := gg2.tr (g3.mono (fun _ _ _ z => by simp [pPp, z]))
      have e370 : m3 0 70 10 = x := by rw [g3.at (by simp [pGo, pW5, pQ]), e270]
      have e373 : ∀ i, 0 ≤ i → i < 4 → m3 0 73 i = 0 := fun i a b => by rw [g3.at (by simp [pGo, pW5, pQ])]; exact e273 i a b
      have hG0 := goF_Inv hV ⟨h7.1, h7p⟩ h8 hln x.toNat
      have hcam : ∀ c v, camR ρ x.toNat c v = if allH (fun l => valA (clR (goF (ud ρ (30 + c) v) x.toNat).1) (lawC ρ l)) (ρ 16).toNat = false then 3 else if (goF (ud ρ (30 + c) v) x.toNat).2.2.1 = (goF ρ x.toNat).2.2.1 then 0 else if (goF ρ x.toNat).2.2.2 < (goF (ud ρ (30 + c) v) x.toNat).2.2.2 then 1 else 2 := fun c v => rfl
      generalize goF ρ x.toNat = P at *
      obtain ⟨-, -, s3, s4⟩ := hS3
      -- the loops
      have main : ∀ c : Nat, c ≤ 24 → ∀ (m : MI) (mr1 : MR) (x4 : V), Cg pPp mi m → Cr mr mr1 → m 0 70 10 = x → PAr m 72 (m 0 70 7) P.2.2.1 → m 0 70 8 = P.2.2.2 → (∀ w, 0 ≤ w → w < 4 → m 0 73 w = cntC ρ x.toNat w c) → Run (d+7) mt_X5_prepare Q (n, mr1, 0, 0) m 72 [vR (some (0, 70)), vR (some (g, 5)), vI x, vI (c : Int), x4] [] := by
        refine nloop ?_
        intro c hc ih m mr1 x4 gm hr1 k10 k72 k8 k73
        have hL := hr1.lay hL0
        by_cases he : c < 24
        · have ih := ih he
          have hlo := loC_rg c
          have hhi := hiC_rg c
          have inner : ∀ i : Nat, i ≤ (hiC c + 2).toNat → loC c + 1 ≤ i → ∀ (m : MI) (mr1 : MR), Cg pPp mi m → Cr mr mr1 → m 0 70 10 = x → PAr m 72 (m 0 70 7) P.2.2.1 → m 0 70 8 = P.2.2.2 → (∀ w, 0 ≤ w → w < 4 → m 0 73 w = cntC ρ x.toNat w c + cntV ρ x.toNat w c i) → Run (d+7) mt_X5_prepare Q (n, mr1, 0, 0) m 84 [vR (some (0, 70)), vR (some (g, 5)), vI x, vI (c : Int), vI ((i : Int) - 1)] [] := by
            refine nloop ?_
            intro i hi ih2 hlo1 m mr1 gm hr1 k10 k72 k8 k73
            have hL := hr1.lay hL0
            have hRm : Rep (-1) m g ρ := hR.mv (pPp_rl (by omega) gm)
            have e16 := hRm.1.1 c (by omega) (by omega)
            by_cases hi2 : (i : Int) - 1 ≤ hiC c
            · have ih2 := ih2 (by omega) (by omega)
              have hb : biC c ((i : Int) - 1) = 1 := biC_lh.mpr ⟨by omega, by omega⟩
              have nxt : ∀ (m2 : MI) (mr2 : MR), Cg pPp mi m2 → Cr mr mr2 → m2 0 70 10 = x → PAr m2 72 (m2 0 70 7) P.2.2.1 → m2 0 70 8 = P.2.2.2 → (∀ w, 0 ≤ w → w < 4 → m2 0 73 w = cntC ρ x.toNat w c + cntV ρ x.toNat w c (i + 1)) → Run (d+7) mt_X5_prepare Q (n, mr2, 0, 0) m2 152 [vR (some (0, 70)), vR (some (g, 5)), vI x, vI (c : Int), vI ((i : Int) - 1)] [] := by
                intro m2 mr2 gm2 hr2 q10 q72 q8 q73
                have := ih2 m2 mr2 gm2 hr2 q10 q72 q8 q73
                rw [show ((i + 1 : Nat) : Int) - 1 = (i : Int) - 1 + 1 by omega] at this
                refine b_inc4 (dc kc_X5_prepare_2 2 rfl) rfl (Nat.le_of_ble_eq_true rfl) rfl (by first | omega | (simp [up] <;> omega)) (by first | omega | (simp [up] <;> omega)) <| s_goto (tgt := 84) (dc kc_X5_prepare_2 3 rfl) rfl <| ?_
                exact this
              refine s_iload (dc kc_X5_prepare_1 5 rfl) rfl <| s_iload_n (dc kc_X5_prepare_1 6 rfl) rfl <| c_s1r (dc kc_X5_prepare_1 7 rfl) cl_X5_85 rfl (Nat.le_of_ble_eq_true rfl) (Nat.zero_le _) (Nat.zero_le _) <| u_highestOf (by first | omega | (simp [up] <;> omega)) <| s_icmp_gt (tgt := 158) (dc kc_X5_prepare_1 8 rfl) rfl (fun c90 => (?_)) (fun c90 => (s_iload (dc kc_X5_prepare_1 9 rfl) rfl <| r_aload_n (dc kc_X5_prepare_1 10 rfl) rfl <| s_getO (dc kc_X5_prepare_1 11 rfl) fl_X5_64 (ly_5_0 hL (by assumption)) <| s_getA (dc kc_X5_prepare_1 12 rfl) fl_X5_88 (ly_15_0 hL (by assumption)) <| s_iload_n (dc kc_X5_prepare_1 13 rfl) rfl <| s_iaload (dc kc_X5_prepare_1 14 rfl) rfl (by first | omega | (simp [up] <;> omega)) (by first | omega | (simp [up] <;> omega)) <| s_icmp_eq (tgt := 152) (dc kc_X5_prepare_1 15 rfl) rfl (fun c104 => (?_)) (fun c104 => (?_))))
              · exfalso; omega
              · rw [e16] at c104
                refine nxt m mr1 gm hr1 k10 k72 k8 (fun w a b => ?_)
                rw [k73 w a b, cntV, if_neg (fun z => z.1.2 c104), Int.add_zero]
              · rw [e16] at c104
                generalize hv : (i : Int) - 1 = v at *
                refine r_aload_n (dc kc_X5_prepare_1 16 rfl) rfl <| s_getO (dc kc_X5_prepare_1 17 rfl) fl_X5_28 (ly_70_2 hL) <| r_aload_n (dc kc_X5_prepare_1 18 rfl) rfl <| s_getO (dc kc_X5_prepare_1 19 rfl) fl_X5_64 (ly_5_0 hL (by assumption)) <| c_v1 (dc kc_X5_prepare_1 20 rfl) cl_X5_67 rfl (Nat.le_of_ble_eq_true rfl) (Nat.zero_le _) (Nat.zero_le _) ?_
                refine u_webBecome hL hok9 hokg (fun m2 g2 f2 f2m => ?_)
                refine r_aload_n (dc kc_X5_prepare_1 21 rfl) rfl <| s_getO (dc kc_X5_prepare_1 22 rfl) fl_X5_28 (ly_70_2 hL) <| s_getA (dc kc_X5_prepare_1 23 rfl) fl_X5_88 (ly_15_0 hL (by assumption)) <| s_iload_n (dc kc_X5_prepare_1 24 rfl) rfl <| s_iload (dc kc_X5_prepare_1 25 rfl) rfl <| s_iastore (dc kc_X5_prepare_1 26 rfl) rfl (by first | omega | (simp [up] <;> omega)) (by first | omega | (simp [up] <;> omega)) <| r_aload_n (dc kc_X5_prepare_1 27 rfl) rfl <| r_aload_n (dc kc_X5_prepare_1 28 rfl) rfl <| s_iload_n (dc kc_X5_prepare_1 29 rfl) rfl <| c_v2 (dc kc_X5_prepare_1 30 rfl) cl_X5_71 rfl (Nat.le_of_ble_eq_true rfl) (Nat.zero_le _) (Nat.zero_le _) ?_
                have hRm2 : Rep (-1) (up m2 9 16 c v) g ρ := hRm.mv (fun a b z => by
                  simp [rlS] at z
                  rw [up_row (fun w => by injection w; omega), g2.row (fun k => by simp; omega)])
                have eo : ∀ k, k < 30 ∨ 54 ≤ k → ud ρ (30 + (c : Int)) v k = ρ k := fun k z => ud_ne (by omega)
                have hV' := VC_ud hV hb
                have hl' : ∀ j, 0 ≤ j → j < ud ρ (30 + (c : Int)) v 17 → WfLine (ud ρ (30 + (c : Int)) v) j := by rw [eo 17 (by omega)]; exact fun j a b => (hln j a b).hi (fun k hk => eo k (by omega)) a
                have gm2 : Cg pPp mi (up m2 9 16 c v) := (gm.tr (g2.mono (fun _ _ _ z => by simp at z; simp [pPp, pGo]; omega))).up (by simp [pPp, pGo])
                have q10 : up m2 9 16 c v 0 70 = m 0 70 := by rw [up_j (by decide), g2.row (fun k => by simp)]
                have q72 : up m2 9 16 c v 0 72 = m 0 72 := by rw [up_j (by decide), g2.row (fun k => by simp)]
                have q73 : up m2 9 16 c v 0 73 = m 0 73 := by rw [up_j (by decide), g2.row (fun k => by simp)]
                refine u_goOn (σ := ud ρ (30 + (c : Int)) v) hL hG hg (by omega) hx (hRm2.2.2.1.row hln (eo 17 (by omega)) (fun k hk => eo k (by omega))) (by rw [hRm2.2.2.2.2.2.2.1 7 (by omega) (by omega) (by omega), eo 7 (by omega)]) hV' (by rw [eo 7 (by omega), eo 17 (by omega)]; exact ⟨h7.1, h7p⟩) (by rw [eo 17 (by omega)]; exact h17'.2) (by rw [eo 8 (by omega)]; exact h8) hl' (fun j a b => ?_) (by rw [up_j (by decide), f2m, eo 19 (by omega)]; exact hRm.1.2) (fun m3 mr3 g3 hr3 hS3 => ?_)
                · rw [up_ud]
                  by_cases ej : j = c
                  · rw [ej, ud_at, ud_at]
                  · rw [ud_ne ej, ud_ne (by omega), f2 j a b]; exact hRm.1.1 j a b
                have hG' := goF_Inv hV' (by rw [eo 7 (by omega), eo 17 (by omega)]; exact ⟨h7.1, h7p⟩) (by rw [eo 8 (by omega)]; exact h8) hl' x.toNat
                have hcv := hcam c v
                generalize goF (ud ρ (30 + (c : Int)) v) x.toNat = q at *
                have gm3 : Cg pPp mi m3 := gm2.tr (g3.mono (fun _ _ _ z => by simp [pPp, z]))
                have hL := hr3.lay hL
                have hr13 := hr1.tr hr3
                obtain ⟨t1, t2, t3, t4⟩ := hS3
                have z10 : m3 0 70 10 = x := by rw [g3.at (by simp [pGo, pW5, pQ]), q10, k10]
                have z7 : m3 0 70 7 = m 0 70 7 := by rw [g3.at (by simp [pGo, pW5, pQ]), q10]
                have z8 : m3 0 70 8 = P.2.2.2 := by rw [g3.at (by simp [pGo, pW5, pQ]), q10, k8]
                have z72 : m3 0 72 = m 0 72 := by rw [g3.row (fun k => by simp [pGo, pW5, pQ]), q72]
                have z73 : m3 0 73 = m 0 73 := by rw [g3.row (fun k => by simp [pGo, pW5, pQ]), q73]
                have p72 : PAr m3 72 (m3 0 70 7) P.2.2.1 := by unfold PAr; rw [z7, z72]; exact k72
                have hR3 : Rep (-1) m3 g ρ := hR.mv (pPp_rl (by omega) gm3)
                -- when it is known what came
                have key : ∀ came, came = camR ρ x.toNat c v → (0 ≤ came ∧ came < 4) → ∀ m4 mr4, Cg (pQ 3) m3 m4 → Cr mr3 mr4 → Run (d+7) mt_X5_prepare Q (n, mr4, 0, 0) m4 147 [vR (some (0, 70)), vR (some (g, 5)), vI x, vI (c : Int), vI v] [vI came, vR (some (0, 73))] := by
                  intro came hcame hrg m4 mr4 g4 hr4
                  have y73 : m4 0 73 = m 0 73 := by rw [g4.row (fun k => by simp [pQ]), z73]
                  have y70 : m4 0 70 = m3 0 70 := g4.row (fun k => by simp [pQ])
                  have y72 : m4 0 72 = m3 0 72 := g4.row (fun k => by simp [pQ])
                  have gm4 : Cg pPp mi m4 := gm3.tr (g4.mono (fun _ _ _ z => by simp [pPp, z]))
                  have hv1 := cntC_rg (ρ := ρ) (n := x.toNat) (w := came) c
                  have hv2 := cntV_rg (ρ := ρ) (n := x.toNat) (w := came) (c := c) i
                  have kk := k73 came hrg.1 hrg.2
                  rw [← y73] at kk
                  refine s_dup2 (dc kc_X5_prepare_1 37 rfl) rfl rfl <| s_iaload (dc kc_X5_prepare_1 38 rfl) rfl (by first | omega | (simp [up] <;> omega)) (by first | omega | (simp [up] <;> omega)) <| k_i (dc kc_X5_prepare_1 39 rfl) rfl <| b_iadd (dc kc_X5_prepare_2 0 rfl) (by first | omega | (simp [up] <;> omega)) (by first | omega | (simp [up] <;> omega)) <| s_iastore (dc kc_X5_prepare_2 1 rfl) rfl (by first | omega | (simp [up] <;> omega)) (by first | omega | (simp [up] <;> omega)) <| ?_
                  refine nxt _ mr4 (gm4.up (by simp [pPp])) (hr13.tr hr4) (by rw [up_j (by decide), y70, z10]) (by unfold PAr; rw [up_j (by decide), up_j (by decide), y70, y72]; exact p72) (by rw [up_j (by decide), y70, z8]) (fun w a b => ?_)
                  rw [up_ud, cntV, hv]
                  by_cases ew : w = came
                  · rw [ew, ud_at, if_pos ⟨⟨hb, c104⟩, hcame.symm⟩, kk]; omega
                  · rw [ud_ne ew, if_neg (fun z => ew (by rw [hcame, z.2])), y73, k73 w a b]; omega
                refine r_aload_n (dc kc_X5_prepare_1 31 rfl) rfl <| s_getA (dc kc_X5_prepare_1 32 rfl) fl_X5_52 (ly_70_9 hL) <| r_aload_n (dc kc_X5_prepare_1 33 rfl) rfl <| r_aload_n (dc kc_X5_prepare_1 34 rfl) rfl <| s_getO (dc kc_X5_prepare_1 35 rfl) fl_X5_91 (ly_5_1 hL (by assumption)) <| c_v1r (dc kc_X5_prepare_1 36 rfl) cl_X5_95 rfl (Nat.le_of_ble_eq_true rfl) (Nat.zero_le _) (Nat.zero_le _) ?_
                refine u_whatCame (c := clR q.1) (PL := q.2.2.1) (DL := P.2.2.1) hL hokL hG'.1 ⟨hR3.2.1.1, h16, fun l a b => (hR3.2.1.2 l a b).1⟩ (fun j a b => t1 j a b) t3 p72 (fun hbr m4 mr4 g4 hr4 => ?_) (fun hall m4 mr4 g4 hr4 => ?_)
                · refine key 3 ?_ ⟨by decide, by decide⟩ m4 mr4 g4 hr4
                  obtain ⟨l, w1, w2, w3⟩ := hbr
                  have ha : allH (fun l => valA (clR q.1) (lawC ρ l)) (ρ 16).toNat = false := by
                    cases hz : allH (fun l => valA (clR q.1) (lawC ρ l)) (ρ 16).toNat with
                    | false => rfl
                    | true =>
                      have := allH_iff.mp hz l w1 (by omega)
                      rw [w3] at this
                      exact absurd this (by decide)
                  rw [hcv, if_pos ha]
                · have ha : allH (fun l => valA (clR q.1) (lawC ρ l)) (ρ 16).toNat = true := allH_iff.mpr (fun l a b => hall l a (by omega))
                  rw [ha, if_neg (by decide), ← z8, ← t4] at hcv
                  refine key _ hcv.symm ?_ m4 mr4 g4 hr4
                  split
                  · decide
                  · split <;> decide
            · have hie : (i : Int) = hiC c + 2 := by omega
              have h11 : i ≤ 11 := by omega
              refine s_iload (dc kc_X5_prepare_1 5 rfl) rfl <| s_iload_n (dc kc_X5_prepare_1 6 rfl) rfl <| c_s1r (dc kc_X5_prepare_1 7 rfl) cl_X5_85 rfl (Nat.le_of_ble_eq_true rfl) (Nat.zero_le _) (Nat.zero_le _) <| u_highestOf (by first | omega | (simp [up] <;> omega)) <| s_icmp_gt (tgt := 158) (dc kc_X5_prepare_1 8 rfl) rfl (fun c90 => (?_)) (fun c90 => (?_))
              · refine b_inc3 (dc kc_X5_prepare_2 4 rfl) rfl (Nat.le_of_ble_eq_true rfl) rfl (by first | omega | (simp [up] <;> omega)) (by first | omega | (simp [up] <;> omega)) <| s_goto (tgt := 72) (dc kc_X5_prepare_2 5 rfl) rfl <| ?_
                refine ih m mr1 _ gm hr1 k10 k72 k8 (fun w a b => ?_)
                rw [k73 w a b, cntC, show 11 = i + (11 - i) by omega, cntV_skip (11 - i) (fun k a b z => by have := biC_lh.mp z; omega)]
              · exfalso; omega
          refine s_iload_n (dc kc_X5_prepare_0 39 rfl) rfl <| k_b (dc kc_X5_prepare_1 0 rfl) rfl <| s_icmp_ge (tgt := 164) (dc kc_X5_prepare_1 1 rfl) rfl (fun c75 => (?_)) (fun c75 => (s_iload_n (dc kc_X5_prepare_1 2 rfl) rfl <| c_s1r (dc kc_X5_prepare_1 3 rfl) cl_X5_81 rfl (Nat.le_of_ble_eq_true rfl) (Nat.zero_le _) (Nat.zero_le _) <| u_lowestOf (by first | omega | (simp [up] <;> omega)) <| t_i4 (dc kc_X5_prepare_1 4 rfl) (Nat.le_of_ble_eq_true rfl) rfl <| ?_))
          · exfalso; omega
          · have := inner (loC c + 1).toNat (by omega) (by omega) m mr1 gm hr1 k10 k72 k8 (fun w a b => ?_)
            · rw [show ((loC c + 1).toNat : Int) - 1 = loC c by omega] at this
              exact this
            · have hz := cntV_skip (ρ := ρ) (n := x.toNat) (w := w) (c := c) (i := 0) (loC c + 1).toNat (fun k a b z => by have := biC_lh.mp z; omega)
              rw [Nat.zero_add] at hz
              rw [k73 w a b, hz, show cntV ρ x.toNat w c 0 = 0 from rfl, Int.add_zero]
        · have : c = 24 := by omega
          subst this
          refine s_iload_n (dc kc_X5_prepare_0 39 rfl) rfl <| k_b (dc kc_X5_prepare_1 0 rfl) rfl <| s_icmp_ge (tgt := 164) (dc kc_X5_prepare_1 1 rfl) rfl (fun c75 => (s_return (dc kc_X5_prepare_2 6 rfl) rfl (Nat.zero_le _) (Nat.zero_le _) ?_)) (fun c75 => (?_))
          · exact hQ m mr1 gm hr1 k10 k73
          · exfalso; omega
      refine r_aload_n (dc kc_X5_prepare_0 21 rfl) rfl <| s_getA (dc kc_X5_prepare_0 22 rfl) fl_X5_32 (ly_70_3 hL) <| k_i (dc kc_X5_prepare_0 23 rfl) rfl <| r_aload_n (dc kc_X5_prepare_0 24 rfl) rfl <| s_getA (dc kc_X5_prepare_0 25 rfl) fl_X5_43 (ly_70_6 hL) <| k_i (dc kc_X5_prepare_0 26 rfl) rfl <| k_b (dc kc_X5_prepare_0 27 rfl) rfl <| s_copy (dc kc_X5_prepare_0 28 rfl) rfl rfl cp_X5_75 nat_copy st_copy it_J10 (by first | omega | (simp [up] <;> omega)) (by first | omega | (simp [up] <;> omega)) (by first | omega | (simp [up] <;> omega)) (by first | omega | (simp [up] <;> omega)) (by first | omega | (simp [up] <;> omega)) <| r_aload_n (dc kc_X5_prepare_0 29 rfl) rfl <| r_aload_n (dc kc_X5_prepare_0 30 rfl) rfl <| s_getI (dc kc_X5_prepare_0 31 rfl) fl_X5_36 <| s_putI (dc kc_X5_prepare_0 32 rfl) fl_X5_46 <| r_aload_n (dc kc_X5_prepare_0 33 rfl) rfl <| r_aload_n (dc kc_X5_prepare_0 34 rfl) rfl <| s_getI (dc kc_X5_prepare_0 35 rfl) fl_X5_40 <| s_putI (dc kc_X5_prepare_0 36 rfl) fl_X5_49 <| k_i (dc kc_X5_prepare_0 37 rfl) rfl <| t_i3 (dc kc_X5_prepare_0 38 rfl) (Nat.le_of_ble_eq_true rfl) rfl <| ?_
      have y70 : upA m3 0 72 (cpy (m3 0 71) (m3 0 72) 0 0 24) 0 70 = m3 0 70 := upA_a (by simp)
      rw [y70]
      have w4 : ∀ v, up (upA m3 0 72 (cpy (m3 0 71) (m3 0 72) 0 0 24)) 0 70 7 v 0 70 5 = m3 0 70 5 := fun v => by rw [up_k (by decide), y70]
      rw [w4]
      refine main 0 (Nat.zero_le _) _ mr3 _ (((gg3.upA (fun k => by simp [pPp])).up (by simp [pPp])).up (by simp [pPp])) hr3 (by rw [up_k (by decide), up_k (by decide), y70, e370]) ?_ (by rw [up_at, s4]) (fun w a b => ?_)
      · refine ⟨by rw [up_k (by decide), up_at]; exact s3.1, s3.2.1, fun i x hx => ?_⟩
        have hi : i < P.2.2.1.length := (List.getElem?_eq_some_iff.mp hx).1
        have := s3.2.1
        rw [up_j (by decide), up_j (by decide), upA_at]
        unfold cpy
        rw [if_pos (by omega), show (0 : Int) + ((i : Int) - 0) = i by omega]
        exact s3.2.2 i x hx
      · rw [up_j (by decide), up_j (by decide), upA_a (by simp), e373 w a b]
        rfl
    · exfalso; omega
theorem u_cputIn (hL : Lay G mr) {mi : MI} {g : Nat} {ρ : Int → Int} {B x w : Int} (hnow : mr 0 0 4 = some (g, 5)) (hG : G ≤ 4) (hg : g < G) (hR : Rep (-1) mi g ρ) (hI : Inv B ρ) (hK : PpK mi ρ) (hQ1 : ¬ ((1 ≤ x ∧ x ≤ 24) ∧ (0 ≤ w ∧ w ≤ 3) ∧ ρ 17 ≠ 0) → Q (vI (-1)) mi n mr) (hQ2 : 1 ≤ x → x ≤ 24 → 0 ≤ w → w ≤ 3 → ρ 17 ≠ 0 → ∀ mi' mr', Cg pPp mi mi' → Cr mr mr' → PpK mi' ρ → Q (vI (cntC ρ x.toNat w 24)) mi' n mr') : Tx (d+8) mt_X11_putIn [vR (some (0, 0)), vI x, vI w] mi n mr Q := by
  have hok : okI G 5 g := hg
  have e20 := hR.2.2.1.1
  refine tx_intro (ls := [vR (some (0, 0)), vI x, vI w]) om_X11_putIn rfl (Nat.le_of_ble_eq_true rfl) ?_
  refine s_iload_n (dc kc_X11_putIn 0 rfl) rfl <| k_i (dc kc_X11_putIn 1 rfl) rfl <| s_icmp_lt (tgt := 33) (dc kc_X11_putIn 2 rfl) rfl (fun c2 => (k_i (dc kc_X11_putIn 16 rfl) rfl <| s_ireturn (dc kc_X11_putIn 17 rfl) rfl (Nat.zero_le _) (Nat.zero_le _) ?_)) (fun c2 => (s_iload_n (dc kc_X11_putIn 3 rfl) rfl <| k_b (dc kc_X11_putIn 4 rfl) rfl <| s_icmp_gt (tgt := 33) (dc kc_X11_putIn 5 rfl) rfl (fun c8 => (k_i (dc kc_X11_putIn 16 rfl) rfl <| s_ireturn (dc kc_X11_putIn 17 rfl) rfl (Nat.zero_le _) (Nat.zero_le _) ?_)) (fun c8 => (s_iload_n (dc kc_X11_putIn 6 rfl) rfl <| s_if_lt (tgt := 33) (dc kc_X11_putIn 7 rfl) rfl (fun c12 => (k_i (dc kc_X11_putIn 16 rfl) rfl <| s_ireturn (dc kc_X11_putIn 17 rfl) rfl (Nat.zero_le _) (Nat.zero_le _) ?_)) (fun c12 => (s_iload_n (dc kc_X11_putIn 8 rfl) rfl <| k_i (dc kc_X11_putIn 9 rfl) rfl <| s_icmp_gt (tgt := 33) (dc kc_X11_putIn 10 rfl) rfl (fun c17 => (k_i (dc kc_X11_putIn 16 rfl) rfl <| s_ireturn (dc kc_X11_putIn 17 rfl) rfl (Nat.zero_le _) (Nat.zero_le _) ?_)) (fun c17 => (r_aload_n (dc kc_X11_putIn 11 rfl) rfl <| s_getO (dc kc_X11_putIn 12 rfl) fl_X11_26 hnow <| s_getO (dc kc_X11_putIn 13 rfl) fl_X11_115 (ly_5_2 hL (by assumption)) <| s_getI (dc kc_X11_putIn 14 rfl) fl_X11_109 <| s_if_ne (tgt := 35) (dc kc_X11_putIn 15 rfl) rfl (fun c30 => (r_aload_n (dc kc_X11_putIn 18 rfl) rfl <| s_getO (dc kc_X11_putIn 19 rfl) fl_X11_68 (ly_0_11 hL) <| r_aload_n (dc kc_X11_putIn 20 rfl) rfl <| s_getO (dc kc_X11_putIn 21 rfl) fl_X11_26 hnow <| s_iload_n (dc kc_X11_putIn 22 rfl) rfl <| c_v2 (dc kc_X11_putIn 23 rfl) cl_X11_358 rfl (Nat.le_of_ble_eq_true rfl) (Nat.zero_le _) (Nat.zero_le _) ?_)) (fun c30 => (k_i (dc kc_X11_putIn 16 rfl) rfl <| s_ireturn (dc kc_X11_putIn 17 rfl) rfl (Nat.zero_le _) (Nat.zero_le _) ?_))))))))))
  all_goals first | exact hQ1 (fun z => by omega) | skip
  refine u_prepare hL hG hg hR hI (by omega) (by omega) (by omega) hK (fun m1 mr1 g1 hr1 e10 e73 => ?_)
  have hL := hr1.lay hL
  refine r_aload_n (dc kc_X11_putIn 24 rfl) rfl <| s_getO (dc kc_X11_putIn 25 rfl) fl_X11_68 (ly_0_11 hL) <| s_getA (dc kc_X11_putIn 26 rfl) fl_X11_362 (ly_70_9 hL) <| s_iload_n (dc kc_X11_putIn 27 rfl) rfl <| s_iaload (dc kc_X11_putIn 28 rfl) rfl (by first | omega | (simp [up] <;> omega)) (by first | omega | (simp [up] <;> omega)) <| s_ireturn (dc kc_X11_putIn 29 rfl) rfl (Nat.zero_le _) (Nat.zero_le _) ?_
  rw [e73 w (by omega) (by omega)]
  exact hQ2 (by omega) (by omega) (by omega) (by omega) (by omega) m1 mr1 g1 hr1 (Or.inr ⟨by omega, by rw [e10]; exact e73⟩)
end PRE
