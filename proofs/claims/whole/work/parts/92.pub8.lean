/-! the class: sure, holds, asked, way -/
def pSu (g a b : Nat) (k : Int) : Bool := (a == g && b == 15 && k == 1) || (a == 0 && b == 0 && k == 3) || (a == 0 && b == 60 && k == 3) || (a == 0 && b == 70 && k == 10)
section PB8
variable {d n G : Nat} {mr : MR} {Q : V → MI → Nat → MR → Prop}
theorem u_csure (hL : Lay G mr) {mi : MI} {g : Nat} {ρ : Int → Int} {B c : Int} (hnow : mr 0 0 4 = some (g, 5)) (hg : g < G) (hR : Rep (-1) mi g ρ) (hI : Inv B ρ) (hQ1 : ¬ (0 ≤ c ∧ c ≤ 23) → Q (vI (-1)) (up mi 0 0 3 (-1)) n mr) (hQ2 : 0 ≤ c → c ≤ 23 → bAnd (bShr (ρ 19) c) 1 = 0 → Q (vI (-3)) (up mi 0 0 3 (-3)) n mr) (hQ3 : 0 ≤ c → c ≤ 23 → bAnd (bShr (ρ 19) c) 1 ≠ 0 → ∀ mi', Cg (pSu g) mi mi' → mi' 0 0 3 = 0 → mi' 0 60 3 = -1 → mi' 0 70 10 = 0 → Rep (-1) mi' g (ud ρ 19 (bClr (ρ 19) c)) → Q (vI 0) mi' n mr) : Tx (d+3) mt_X11_sure [vR (some (0, 0)), vI c] mi n mr Q := by
  have hok : okI G 5 g := hg
  have hok3 : okI G 15 g := Or.inl hg
  obtain ⟨rW, rL, rN, rJ, rS, rH, rC⟩ := id hR
  have e19 := rW.2
  have h200 := hI.1.2.2.2.1.2
  have hwf := hI.wf
  refine tx_intro (ls := [vR (some (0, 0)), vI c]) om_X11_sure rfl (Nat.le_of_ble_eq_true rfl) ?_
  by_cases hc : 0 ≤ c ∧ c ≤ 23
  · refine s_iload_n (dc kc_X11_sure 0 rfl) rfl <| c_s1r (dc kc_X11_sure 1 rfl) cl_X11_169 rfl (Nat.le_of_ble_eq_true rfl) (Nat.zero_le _) (Nat.zero_le _) <| u_isCell <| s_if_neb (tgt := 13) (dc kc_X11_sure 2 rfl) rfl (fun c4 => (r_aload_n (dc kc_X11_sure 7 rfl) rfl <| s_getO (dc kc_X11_sure 8 rfl) fl_X11_26 hnow <| s_getO (dc kc_X11_sure 9 rfl) fl_X11_140 (ly_5_0 hL (by assumption)) <| s_iload_n (dc kc_X11_sure 10 rfl) rfl <| c_v1r (dc kc_X11_sure 11 rfl) cl_X11_172 rfl (Nat.le_of_ble_eq_true rfl) (Nat.zero_le _) (Nat.zero_le _) <| u_markOf <| s_if_ne (tgt := 34) (dc kc_X11_sure 12 rfl) rfl (fun c24 => (r_aload_n (dc kc_X11_sure 17 rfl) rfl <| s_getO (dc kc_X11_sure 18 rfl) fl_X11_26 hnow <| s_getO (dc kc_X11_sure 19 rfl) fl_X11_140 (ly_5_0 hL (by assumption)) <| s_iload_n (dc kc_X11_sure 20 rfl) rfl <| k_i (dc kc_X11_sure 21 rfl) rfl <| c_v2 (dc kc_X11_sure 22 rfl) cl_X11_309 rfl (Nat.le_of_ble_eq_true rfl) (Nat.zero_le _) (Nat.zero_le _) <| u_mark (by first | omega | (simp [up] <;> omega)) (by first | omega | (simp [up] <;> omega)) (by first | omega | assumption | (simp [up] <;> omega)) <| r_aload_n (dc kc_X11_sure 23 rfl) rfl <| c_v0 (dc kc_X11_sure 24 rfl) cl_X11_106 rfl (Nat.le_of_ble_eq_true rfl) (Nat.zero_le _) (Nat.zero_le _) <| u_changed hL <| r_aload_n (dc kc_X11_sure 25 rfl) rfl <| k_i (dc kc_X11_sure 26 rfl) rfl <| c_v1r (dc kc_X11_sure 27 rfl) cl_X11_112 rfl (Nat.le_of_ble_eq_true rfl) (Nat.zero_le _) (Nat.zero_le _) <| u_answer <| s_ireturn (dc kc_X11_sure 28 rfl) rfl (Nat.zero_le _) (Nat.zero_le _) ?_)) (fun c24 => (r_aload_n (dc kc_X11_sure 13 rfl) rfl <| k_b (dc kc_X11_sure 14 rfl) rfl <| c_v1r (dc kc_X11_sure 15 rfl) cl_X11_80 rfl (Nat.le_of_ble_eq_true rfl) (Nat.zero_le _) (Nat.zero_le _) <| u_refuse <| s_ireturn (dc kc_X11_sure 16 rfl) rfl (Nat.zero_le _) (Nat.zero_le _) ?_)))) (fun c4 => (?_))
    · rw [e19] at c24
      rw [if_pos rfl, e19]
      have hu : ∀ k, k ≠ 19 → ud ρ 19 (bClr (ρ 19) c) k = ρ k := fun k z => ud_ne z
      refine hQ3 hc.1 hc.2 c24 _ ((((Cg.rf.up (by simp [pSu])).up (by simp [pSu])).up (by simp [pSu])).up (by simp [pSu])) up_at (by rw [up_j (by decide), up_j (by decide), up_at]) (by rw [up_j (by decide), up_at]) ?_
      have far : ∀ a b, b ≠ 15 → 5 ≤ b → b ≤ 43 → up (up (up (up mi g 15 1 (bClr (ρ 19) c)) 0 60 3 (-1)) 0 70 10 0) 0 0 3 0 a b = mi a b := fun a b h1 h2 h3 => by rw [up_j (by omega), up_j (by omega), up_j (by omega), up_j h1]
      refine ⟨⟨fun i a b => ?_, ?_⟩, (rL.row hwf.1 (hu 16 (by decide)) (fun k hk => hu k (by omega))).mv (fun b z1 z2 => far g b (by omega) (by omega) (by omega)), (rN.row hwf.2 (hu 17 (by decide)) (fun k hk => hu k (by omega))).mv (fun b z1 z2 => far (g + 10) b (by omega) (by omega) (by omega)), (rJ.row h200 (fun k hk => hu k (by omega))).mv (fun b z1 z2 => far g b (by omega) (by omega) (by omega)), (rS.row (fun k z1 z2 => hu k (by omega))).mv (far g 37 (by decide) (by decide) (by decide)) (far g 38 (by decide) (by decide) (by decide)), (rH.row (fun k hk => hu k (by omega))).mv (fun b z1 z2 => far g b (by omega) (by omega) (by omega)), (rC.row (fun k hk => hu k (by omega))).mv (fun b z1 z2 => far g b (by omega) (by omega) (by omega))⟩
      · rw [far g 16 (by decide) (by decide) (by decide), hu _ (by omega)]; exact rW.1 i a b
      · rw [up_j (by decide), up_j (by decide), up_j (by decide), up_at, ud_at]
    · rw [e19] at c24
      exact hQ2 hc.1 hc.2 c24
    · exfalso; omega
  · refine s_iload_n (dc kc_X11_sure 0 rfl) rfl <| c_s1r (dc kc_X11_sure 1 rfl) cl_X11_169 rfl (Nat.le_of_ble_eq_true rfl) (Nat.zero_le _) (Nat.zero_le _) <| u_isCell <| s_if_neb (tgt := 13) (dc kc_X11_sure 2 rfl) rfl (fun c4 => (?_)) (fun c4 => (r_aload_n (dc kc_X11_sure 3 rfl) rfl <| k_i (dc kc_X11_sure 4 rfl) rfl <| c_v1r (dc kc_X11_sure 5 rfl) cl_X11_80 rfl (Nat.le_of_ble_eq_true rfl) (Nat.zero_le _) (Nat.zero_le _) <| u_refuse <| s_ireturn (dc kc_X11_sure 6 rfl) rfl (Nat.zero_le _) (Nat.zero_le _) ?_))
    · exfalso; omega
    · exact hQ1 hc
theorem u_cholds (hL : Lay G mr) {mi : MI} {g : Nat} {ρ : Int → Int} {B l : Int} (hnow : mr 0 0 4 = some (g, 5)) (hg : g < G) (hR : Rep (-1) mi g ρ) (hI : Inv B ρ) (hQ : ∀ mi' mr', Cg (pQ 0) mi mi' → Cr mr mr' → Q (vI (if 0 ≤ l ∧ l < ρ 16 then valA (clR ρ) (lawC ρ l) else -1)) mi' n mr') : Tx (d+5) mt_X11_holds [vR (some (0, 0)), vI l] mi n mr Q := by
  have hok : okI G 5 g := hg
  have hok2 : okI G 20 g := Or.inl hg
  have hok3 : okI G 15 g := Or.inl hg
  obtain ⟨rW, rL, rN, rJ, rS, rH, rC⟩ := id hR
  have e16 := rL.1
  have h16 := hI.1.2.2.2.2.2.1
  refine tx_intro (ls := [vR (some (0, 0)), vI l]) om_X11_holds rfl (Nat.le_of_ble_eq_true rfl) ?_
  refine r_aload_n (dc kc_X11_holds 0 rfl) rfl <| s_getO (dc kc_X11_holds 1 rfl) fl_X11_26 hnow <| s_getO (dc kc_X11_holds 2 rfl) fl_X11_84 (ly_5_1 hL (by assumption)) <| s_iload_n (dc kc_X11_holds 3 rfl) rfl <| c_v1r (dc kc_X11_holds 4 rfl) cl_X11_136 rfl (Nat.le_of_ble_eq_true rfl) (Nat.zero_le _) (Nat.zero_le _) <| u_has <| s_if_neb (tgt := 16) (dc kc_X11_holds 5 rfl) rfl (fun c11 => (r_aload_n (dc kc_X11_holds 8 rfl) rfl <| s_getO (dc kc_X11_holds 9 rfl) fl_X11_47 (ly_0_8 hL) <| r_aload_n (dc kc_X11_holds 10 rfl) rfl <| s_getO (dc kc_X11_holds 11 rfl) fl_X11_26 hnow <| s_getO (dc kc_X11_holds 12 rfl) fl_X11_140 (ly_5_0 hL (by assumption)) <| s_getA (dc kc_X11_holds 13 rfl) fl_X11_144 (ly_15_0 hL (by assumption)) <| c_v1 (dc kc_X11_holds 14 rfl) cl_X11_149 rfl (Nat.le_of_ble_eq_true rfl) (Nat.zero_le _) (Nat.zero_le _) ?_)) (fun c11 => (k_i (dc kc_X11_holds 6 rfl) rfl <| s_ireturn (dc kc_X11_holds 7 rfl) rfl (Nat.zero_le _) (Nat.zero_le _) ?_))
  · refine u_rbegin ?_
    have hR0 : Cr mr (upR mr 0 50 0 (some (g, 16))) := Cr.rf.cel (fun z => by first | rfl | omega)
    have hcel : upR mr 0 50 0 (some (g, 16)) 0 50 0 = some (g, 16) := upR_at
    have hL1 := hR0.lay hL
    have hnow1 : upR mr 0 50 0 (some (g, 16)) 0 0 4 = some (g, 5) := by rw [hR0.at (by decide) (by decide)]; exact hnow
    generalize upR mr 0 50 0 (some (g, 16)) = mr1 at *
    have hL := hL1
    have hnow := hnow1
    have g0 : Cg (pQ 0) mi (up (up mi 0 50 3 0) 0 50 4 0) := (Cg.rf.up (by simp [pQ])).up (by simp [pQ])
    have b0 : Bm (up (up mi 0 50 3 0) 0 50 4 0 0 50 3) [] := by rw [up_k (by decide), up_at]; exact Bm.nil
    generalize up (up mi 0 50 3 0) 0 50 4 0 = m1 at *
    have hag : ag (clR ρ) (clG m1 g) := fun i a b => by
      show m1 g 16 i = _
      rw [g0.at (by simp [pQ])]; exact rW.1 i a b
    have hk : LwT m1 g l (lawC ρ l) := by
      have := (rL.2 l (by omega) (by omega)).1
      unfold LwT at *
      rw [g0.row (j := 21) (fun k => by simp [pQ]), g0.row (j := 22) (fun k => by simp [pQ]), g0.row (j := 25) (fun k => by simp [pQ])]
      exact this
    refine r_aload_n (dc kc_X11_holds 15 rfl) rfl <| s_getO (dc kc_X11_holds 16 rfl) fl_X11_47 (ly_0_8 hL) <| r_aload_n (dc kc_X11_holds 17 rfl) rfl <| s_getO (dc kc_X11_holds 18 rfl) fl_X11_26 hnow <| s_getO (dc kc_X11_holds 19 rfl) fl_X11_84 (ly_5_1 hL (by assumption)) <| r_aload_n (dc kc_X11_holds 20 rfl) rfl <| s_getO (dc kc_X11_holds 21 rfl) fl_X11_26 hnow <| s_getO (dc kc_X11_holds 22 rfl) fl_X11_84 (ly_5_1 hL (by assumption)) <| s_getA (dc kc_X11_holds 23 rfl) fl_X11_153 (ly_20_3 hL (by assumption)) <| s_iload_n (dc kc_X11_holds 24 rfl) rfl <| s_iaload (dc kc_X11_holds 25 rfl) rfl (by first | omega | (simp [up] <;> omega)) (by first | omega | (simp [up] <;> omega)) <| r_aload_n (dc kc_X11_holds 26 rfl) rfl <| s_getO (dc kc_X11_holds 27 rfl) fl_X11_26 hnow <| s_getO (dc kc_X11_holds 28 rfl) fl_X11_84 (ly_5_1 hL (by assumption)) <| s_getA (dc kc_X11_holds 29 rfl) fl_X11_156 (ly_20_6 hL (by assumption)) <| s_iload_n (dc kc_X11_holds 30 rfl) rfl <| s_iaload (dc kc_X11_holds 31 rfl) rfl (by first | omega | (simp [up] <;> omega)) (by first | omega | (simp [up] <;> omega)) <| c_v3r (dc kc_X11_holds 32 rfl) cl_X11_159 rfl (Nat.le_of_ble_eq_true rfl) (Nat.zero_le _) (Nat.zero_le _) ?_
    refine u_runL hL (by decide) hok2 hcel (hI.1.1.ag hag) hk b0 (fun m2 g2 b2 _ => ?_)
    refine s_ireturn (dc kc_X11_holds 33 rfl) rfl (Nat.zero_le _) (Nat.zero_le _) ?_
    have := hQ m2 mr1 (g0.tr g2) hR0
    rw [if_pos (by omega)] at this
    rw [valA_ag hI.1.1 hag hk.2.2.2.2]
    exact this
  · have := hQ mi mr Cg.rf Cr.rf
    rw [if_neg (by omega)] at this; exact this
theorem u_casked (hL : Lay G mr) {mi : MI} {g : Nat} {ρ : Int → Int} {B l : Int} (hnow : mr 0 0 4 = some (g, 5)) (hg : g < G) (hR : Rep (-1) mi g ρ) (hI : Inv B ρ) (hQ1 : ¬ (0 ≤ l ∧ l < ρ 16) → Q (vI (-1)) mi n mr) (hQ2 : 0 ≤ l → l < ρ 16 → ∀ mi' mr' m, Cg (pQ 0) mi mi' → Cr mr mr' → Bm m (askA (clR ρ) (lawC ρ l)) → Q (vI m) mi' n mr') : Tx (d+5) mt_X11_asked [vR (some (0, 0)), vI l] mi n mr Q := by
  have hok : okI G 5 g := hg
  have hok2 : okI G 20 g := Or.inl hg
  have hok3 : okI G 15 g := Or.inl hg
  obtain ⟨rW, rL, rN, rJ, rS, rH, rC⟩ := id hR
  have e16 := rL.1
  have h16 := hI.1.2.2.2.2.2.1
  refine tx_intro (ls := [vR (some (0, 0)), vI l]) om_X11_asked rfl (Nat.le_of_ble_eq_true rfl) ?_
  refine r_aload_n (dc kc_X11_asked 0 rfl) rfl <| s_getO (dc kc_X11_asked 1 rfl) fl_X11_26 hnow <| s_getO (dc kc_X11_asked 2 rfl) fl_X11_84 (ly_5_1 hL (by assumption)) <| s_iload_n (dc kc_X11_asked 3 rfl) rfl <| c_v1r (dc kc_X11_asked 4 rfl) cl_X11_136 rfl (Nat.le_of_ble_eq_true rfl) (Nat.zero_le _) (Nat.zero_le _) <| u_has <| s_if_neb (tgt := 16) (dc kc_X11_asked 5 rfl) rfl (fun c11 => (r_aload_n (dc kc_X11_asked 8 rfl) rfl <| s_getO (dc kc_X11_asked 9 rfl) fl_X11_47 (ly_0_8 hL) <| r_aload_n (dc kc_X11_asked 10 rfl) rfl <| s_getO (dc kc_X11_asked 11 rfl) fl_X11_26 hnow <| s_getO (dc kc_X11_asked 12 rfl) fl_X11_140 (ly_5_0 hL (by assumption)) <| s_getA (dc kc_X11_asked 13 rfl) fl_X11_144 (ly_15_0 hL (by assumption)) <| c_v1 (dc kc_X11_asked 14 rfl) cl_X11_149 rfl (Nat.le_of_ble_eq_true rfl) (Nat.zero_le _) (Nat.zero_le _) ?_)) (fun c11 => (k_i (dc kc_X11_asked 6 rfl) rfl <| s_ireturn (dc kc_X11_asked 7 rfl) rfl (Nat.zero_le _) (Nat.zero_le _) ?_))
  · refine u_rbegin ?_
    have hR0 : Cr mr (upR mr 0 50 0 (some (g, 16))) := Cr.rf.cel (fun z => by first | rfl | omega)
    have hcel : upR mr 0 50 0 (some (g, 16)) 0 50 0 = some (g, 16) := upR_at
    have hL1 := hR0.lay hL
    have hnow1 : upR mr 0 50 0 (some (g, 16)) 0 0 4 = some (g, 5) := by rw [hR0.at (by decide) (by decide)]; exact hnow
    generalize upR mr 0 50 0 (some (g, 16)) = mr1 at *
    have hL := hL1
    have hnow := hnow1
    have g0 : Cg (pQ 0) mi (up (up mi 0 50 3 0) 0 50 4 0) := (Cg.rf.up (by simp [pQ])).up (by simp [pQ])
    have b0 : Bm (up (up mi 0 50 3 0) 0 50 4 0 0 50 3) [] := by rw [up_k (by decide), up_at]; exact Bm.nil
    generalize up (up mi 0 50 3 0) 0 50 4 0 = m1 at *
    have hag : ag (clR ρ) (clG m1 g) := fun i a b => by
      show m1 g 16 i = _
      rw [g0.at (by simp [pQ])]; exact rW.1 i a b
    have hk : LwT m1 g l (lawC ρ l) := by
      have := (rL.2 l (by omega) (by omega)).1
      unfold LwT at *
      rw [g0.row (j := 21) (fun k => by simp [pQ]), g0.row (j := 22) (fun k => by simp [pQ]), g0.row (j := 25) (fun k => by simp [pQ])]
      exact this
    refine r_aload_n (dc kc_X11_asked 15 rfl) rfl <| s_getO (dc kc_X11_asked 16 rfl) fl_X11_47 (ly_0_8 hL) <| r_aload_n (dc kc_X11_asked 17 rfl) rfl <| s_getO (dc kc_X11_asked 18 rfl) fl_X11_26 hnow <| s_getO (dc kc_X11_asked 19 rfl) fl_X11_84 (ly_5_1 hL (by assumption)) <| r_aload_n (dc kc_X11_asked 20 rfl) rfl <| s_getO (dc kc_X11_asked 21 rfl) fl_X11_26 hnow <| s_getO (dc kc_X11_asked 22 rfl) fl_X11_84 (ly_5_1 hL (by assumption)) <| s_getA (dc kc_X11_asked 23 rfl) fl_X11_153 (ly_20_3 hL (by assumption)) <| s_iload_n (dc kc_X11_asked 24 rfl) rfl <| s_iaload (dc kc_X11_asked 25 rfl) rfl (by first | omega | (simp [up] <;> omega)) (by first | omega | (simp [up] <;> omega)) <| r_aload_n (dc kc_X11_asked 26 rfl) rfl <| s_getO (dc kc_X11_asked 27 rfl) fl_X11_26 hnow <| s_getO (dc kc_X11_asked 28 rfl) fl_X11_84 (ly_5_1 hL (by assumption)) <| s_getA (dc kc_X11_asked 29 rfl) fl_X11_156 (ly_20_6 hL (by assumption)) <| s_iload_n (dc kc_X11_asked 30 rfl) rfl <| s_iaload (dc kc_X11_asked 31 rfl) rfl (by first | omega | (simp [up] <;> omega)) (by first | omega | (simp [up] <;> omega)) <| c_v3r (dc kc_X11_asked 32 rfl) cl_X11_159 rfl (Nat.le_of_ble_eq_true rfl) (Nat.zero_le _) (Nat.zero_le _) ?_
    refine u_runL hL (by decide) hok2 hcel (hI.1.1.ag hag) hk b0 (fun m2 g2 b2 _ => ?_)
    rw [askA_ag hI.1.1 hag hk.2.2.2.2, List.append_nil] at b2
    refine s_pop (dc kc_X11_asked 33 rfl) rfl <| r_aload_n (dc kc_X11_asked 34 rfl) rfl <| s_getO (dc kc_X11_asked 35 rfl) fl_X11_47 (ly_0_8 hL) <| s_getI (dc kc_X11_asked 36 rfl) fl_X11_166 <| s_ireturn (dc kc_X11_asked 37 rfl) rfl (Nat.zero_le _) (Nat.zero_le _) ?_
    exact hQ2 (by omega) (by omega) m2 mr1 _ (g0.tr g2) hR0 b2
  · exact hQ1 (by omega)
theorem u_cway (hL : Lay G mr) {mi : MI} {g : Nat} {ρ : Int → Int} {B h i : Int} (hnow : mr 0 0 4 = some (g, 5)) (hg : g < G) (hR : Rep (-1) mi g ρ) (hI : Inv B ρ) (hQ1 : ¬ (0 ≤ h ∧ h ≤ 2) → Q (vI (-1)) mi n mr) (hQ2 : 0 ≤ h → h ≤ 2 → ∀ mi' mr', Cg (pQ 0) mi mi' → Cr mr mr' → Q (vI (if 0 ≤ i ∧ i < (way (clR ρ) h).length then (way (clR ρ) h).getD i.toNat 0 else -1)) mi' n mr') : Tx (d+3) mt_X11_way [vR (some (0, 0)), vI h, vI i] mi n mr Q := by
  have hok : okI G 5 g := hg
  have hok3 : okI G 15 g := Or.inl hg
  obtain ⟨rW, rL, rN, rJ, rS, rH, rC⟩ := id hR
  refine tx_intro (ls := [vR (some (0, 0)), vI h, vI i]) om_X11_way rfl (Nat.le_of_ble_eq_true rfl) ?_
  refine s_iload_n (dc kc_X11_way 0 rfl) rfl <| s_if_lt (tgt := 9) (dc kc_X11_way 1 rfl) rfl (fun c1 => (k_i (dc kc_X11_way 5 rfl) rfl <| s_ireturn (dc kc_X11_way 6 rfl) rfl (Nat.zero_le _) (Nat.zero_le _) ?_)) (fun c1 => (s_iload_n (dc kc_X11_way 2 rfl) rfl <| k_i (dc kc_X11_way 3 rfl) rfl <| s_icmp_lt (tgt := 11) (dc kc_X11_way 4 rfl) rfl (fun c6 => (r_aload_n (dc kc_X11_way 7 rfl) rfl <| s_getO (dc kc_X11_way 8 rfl) fl_X11_47 (ly_0_8 hL) <| r_aload_n (dc kc_X11_way 9 rfl) rfl <| s_getO (dc kc_X11_way 10 rfl) fl_X11_26 hnow <| s_getO (dc kc_X11_way 11 rfl) fl_X11_140 (ly_5_0 hL (by assumption)) <| s_getA (dc kc_X11_way 12 rfl) fl_X11_144 (ly_15_0 hL (by assumption)) <| c_v1 (dc kc_X11_way 13 rfl) cl_X11_149 rfl (Nat.le_of_ble_eq_true rfl) (Nat.zero_le _) (Nat.zero_le _) ?_)) (fun c6 => (k_i (dc kc_X11_way 5 rfl) rfl <| s_ireturn (dc kc_X11_way 6 rfl) rfl (Nat.zero_le _) (Nat.zero_le _) ?_))))
  · exact hQ1 (by omega)
  · refine u_rbegin ?_
    have hR0 : Cr mr (upR mr 0 50 0 (some (g, 16))) := Cr.rf.cel (fun z => by first | rfl | omega)
    have hcel : upR mr 0 50 0 (some (g, 16)) 0 50 0 = some (g, 16) := upR_at
    have hL1 := hR0.lay hL
    generalize upR mr 0 50 0 (some (g, 16)) = mr1 at *
    have hL := hL1
    have g0 : Cg (pQ 0) mi (up (up mi 0 50 3 0) 0 50 4 0) := (Cg.rf.up (by simp [pQ])).up (by simp [pQ])
    have b0 : Bm (up (up mi 0 50 3 0) 0 50 4 0 0 50 3) [] := by rw [up_k (by decide), up_at]; exact Bm.nil
    generalize up (up mi 0 50 3 0) 0 50 4 0 = m1 at *
    have hag : ag (clR ρ) (clG m1 g) := fun i a b => by
      show m1 g 16 i = _
      rw [g0.at (by simp [pQ])]; exact rW.1 i a b
    refine r_aload_n (dc kc_X11_way 14 rfl) rfl <| s_getO (dc kc_X11_way 15 rfl) fl_X11_47 (ly_0_8 hL) <| s_iload_n (dc kc_X11_way 16 rfl) rfl <| s_iload_n (dc kc_X11_way 17 rfl) rfl <| c_v2r (dc kc_X11_way 18 rfl) cl_X11_181 rfl (Nat.le_of_ble_eq_true rfl) (Nat.zero_le _) (Nat.zero_le _) ?_
    refine u_nodeOnWay hL (by decide) hcel (hI.1.1.ag hag) (by omega) (by omega) b0 (fun m2 g2 => ?_)
    refine s_ireturn (dc kc_X11_way 19 rfl) rfl (Nat.zero_le _) (Nat.zero_le _) ?_
    have hw : way (clG m1 g) h = way (clR ρ) h := by
      have hr := way_rg hI.1.1 (h := h) (by omega) (by omega)
      unfold way at *
      rw [hag h (by omega) (by omega)]
      exact (wayL_loc 6 [] _ (fun x hx => by have := hr x hx; exact hag _ (by omega) (by omega))).1
    rw [hw]
    exact hQ2 (by omega) (by omega) m2 mr1 (g0.tr g2) hR0
  · exact hQ1 (by omega)
end PB8
