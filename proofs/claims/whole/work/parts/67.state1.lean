/-! the class: writes of a state -/
section RMV
variable {e : Int} {mi mi' : MI} {g : Nat} {ρ ρ' : Int → Int}
theorem RepW.mv (h : RepW mi g ρ) (h16 : mi' g 16 = mi g 16) (h15 : mi' g 15 1 = mi g 15 1) : RepW mi' g ρ := by unfold RepW at *; rw [h16, h15]; exact h
theorem RepL.mv (h : RepL mi g ρ) (hm : ∀ b, 20 ≤ b → b ≤ 27 → mi' g b = mi g b) : RepL mi' g ρ := by
  unfold RepL LwT at *
  rw [hm 20 (by omega) (by omega), hm 21 (by omega) (by omega), hm 22 (by omega) (by omega), hm 25 (by omega) (by omega), hm 27 (by omega) (by omega)]
  exact h
theorem RepN.mv (h : RepN mi g ρ) (hm : ∀ b, 20 ≤ b → b ≤ 27 → mi' (g + 10) b = mi (g + 10) b) : RepN mi' g ρ := by
  unfold RepN LnT at *
  rw [hm 20 (by omega) (by omega), hm 21 (by omega) (by omega), hm 22 (by omega) (by omega), hm 23 (by omega) (by omega), hm 24 (by omega) (by omega), hm 25 (by omega) (by omega), hm 26 (by omega) (by omega)]
  exact h
theorem RepJ.mv (h : RepJ mi g ρ) (hm : ∀ b, 30 ≤ b → b ≤ 36 → mi' g b = mi g b) : RepJ mi' g ρ := by
  unfold RepJ plc at *
  rw [hm 30 (by omega) (by omega), hm 31 (by omega) (by omega), hm 32 (by omega) (by omega), hm 33 (by omega) (by omega), hm 34 (by omega) (by omega), hm 35 (by omega) (by omega), hm 36 (by omega) (by omega)]
  exact h
theorem RepS.mv (h : RepS mi g ρ) (h7 : mi' g 37 = mi g 37) (h8 : mi' g 38 = mi g 38) : RepS mi' g ρ := by unfold RepS at *; rw [h7, h8]; exact h
theorem RepH.mv (h : RepH mi g ρ) (hm : ∀ b, 40 ≤ b → b ≤ 43 → mi' g b = mi g b) : RepH mi' g ρ := by
  unfold RepH at *
  rw [hm 40 (by omega) (by omega), hm 41 (by omega) (by omega), hm 42 (by omega) (by omega), hm 43 (by omega) (by omega)]
  exact h
theorem RepC.mv (h : RepC e mi g ρ) (hm : ∀ b, 5 ≤ b → b ≤ 10 → mi' g b = mi g b) : RepC e mi' g ρ := by
  unfold RepC at *
  rw [hm 5 (by omega) (by omega), hm 6 (by omega) (by omega), hm 7 (by omega) (by omega), hm 8 (by omega) (by omega), hm 9 (by omega) (by omega), hm 10 (by omega) (by omega)]
  exact h
theorem RepW.row (h : RepW mi g ρ) (hr : ∀ k, k = 19 ∨ (30 ≤ k ∧ k < 54) → ρ' k = ρ k) : RepW mi g ρ' := ⟨fun i a b => by rw [hr _ (by omega)]; exact h.1 i a b, by rw [hr 19 (by omega)]; exact h.2⟩
theorem RepL.row (hw : ∀ l, 0 ≤ l → l < ρ 16 → WfLaw ρ l) (h : RepL mi g ρ) (h16 : ρ' 16 = ρ 16) (hh : hiEq ρ ρ') : RepL mi g ρ' := by
  refine ⟨by rw [h16]; exact h.1, fun l a b => ?_⟩
  rw [h16] at b
  rw [lawC_hi hh a (fun z => ((hw l a b).2.2.1 z).1)]
  exact h.2 l a b
theorem RepN.row (hw : ∀ j, 0 ≤ j → j < ρ 17 → WfLine ρ j) (h : RepN mi g ρ) (h17 : ρ' 17 = ρ 17) (hh : hiEq ρ ρ') : RepN mi g ρ' := by
  refine ⟨by rw [h17]; exact h.1, fun j a b => ?_⟩
  rw [h17] at b
  have := ln_hi hh a (hw j a b)
  rw [tgtOf_hi hh a, this.1, this.2.1, this.2.2]
  exact h.2 j a b
theorem RepJ.row (h : RepJ mi g ρ) (h200 : ρ 8 ≤ 200) (hr : ∀ k, k = 8 ∨ k = 20 ∨ (646 ≤ k ∧ k < 2046) → ρ' k = ρ k) : RepJ mi g ρ' := by
  have e8 := hr 8 (by omega)
  refine ⟨by rw [e8]; exact h.1, h.2.1, by rw [hr 20 (by omega)]; exact h.2.2.1, fun w a b => ?_⟩
  rw [e8] at b
  rw [hr _ (by omega), hr _ (by omega), hr _ (by omega), hr _ (by omega), hr _ (by omega), hr _ (by omega)]
  exact h.2.2.2 w a b
theorem RepS.row (h : RepS mi g ρ) (hr : ∀ k, 246 ≤ k → k < 646 → ρ' k = ρ k) : RepS mi g ρ' := fun s a b => by
  rw [hr _ (by omega) (by omega), hr _ (by omega) (by omega)]; exact h s a b
theorem RepH.row (h : RepH mi g ρ) (hr : ∀ k, (11 ≤ k ∧ k ≤ 13) ∨ (110 ≤ k ∧ k < 146) → ρ' k = ρ k) : RepH mi g ρ' := by
  refine ⟨by rw [hr 11 (by omega)]; exact h.1, by rw [hr 12 (by omega)]; exact h.2.1, by rw [hr 12 (by omega), hr 13 (by omega)]; exact h.2.2.1, by rw [hr 12 (by omega)]; exact h.2.2.2.1, fun l a b => ?_⟩
  rw [hr _ (by omega), hr _ (by omega), hr _ (by omega)]
  exact h.2.2.2.2 l a b
theorem RepC.row (h : RepC e mi g ρ) (hr : ∀ k, (0 ≤ k ∧ k < 8 ∧ k ≠ e) ∨ k = 9 ∨ k = 10 ∨ k = 14 ∨ k = 15 ∨ (54 ≤ k ∧ k < 107) ∨ (146 ≤ k ∧ k < 246) → ρ' k = ρ k) : RepC e mi g ρ' := by
  obtain ⟨a1, a2, a3, a4, a5, a6, a7, a8, a9⟩ := h
  refine ⟨fun k a b c => by rw [hr _ (by omega)]; exact a1 k a b c, fun i a b => by rw [hr _ (by omega)]; exact a2 i a b, fun i a b => by rw [hr _ (by omega)]; exact a3 i a b, fun i a b => by rw [hr _ (by omega)]; exact a4 i a b, fun i a b => by rw [hr _ (by omega)]; exact a5 i a b, by rw [hr _ (by omega)]; exact a6, by rw [hr _ (by omega)]; exact a7, by rw [hr _ (by omega)]; exact a8, by rw [hr _ (by omega)]; exact a9⟩
end RMV
/-- what writes of a state may change -/
def pSt (g a b : Nat) (k : Int) : Bool := pJ g a b k || (a == g && (b == 16 || (b == 15 && k == 1)))
/-- laws and lines are well made -/
def WfR (ρ : Int → Int) : Prop := (∀ l, 0 ≤ l → l < ρ 16 → WfLaw ρ l) ∧ (∀ j, 0 ≤ j → j < ρ 17 → WfLine ρ j)
def wrR (ρ : Int → Int) (s l c v m r : Int) : Int → Int := mkR (ud (kw ρ s l c v r) (30 + c) v) c m
theorem wrR_off {ρ : Int → Int} {s l c v m r k : Int} (h0 : 0 ≤ ρ 8) (h1 : ρ 8 ≤ 200) (hc0 : 0 ≤ c) (hc1 : c < 24) (hk : k ≠ 8 ∧ k ≠ 20 ∧ k ≠ 19 ∧ (k < 30 ∨ 54 ≤ k ∧ k < 646 ∨ 2046 ≤ k)) : wrR ρ s l c v m r k = ρ k := by
  unfold wrR
  rw [mkR_off (by omega), ud_ne (by omega)]
  exact kw_off h0 h1 (by omega)
/-- a mark as it is -/
theorem mark_same {x c : Int} (hc : 0 ≤ c) (hc1 : c < 32) (hx : rg x) : (if bAnd (bShr x c) 1 = 0 then bClr x c else bSet x c) = x := by
  split
  · rename_i e
    have e := (bit0 hc hc1).mp e
    refine tB_ext (bClr_rg _ _) hx (fun i hi => ?_)
    rw [tB_clr hc hc1 hi]
    by_cases ei : i = c.toNat
    · rw [ei, e]; rfl
    · simp [ei]
  · rename_i e
    have e1 : tB x c.toNat = true := by
      cases h : tB x c.toNat with
      | true => rfl
      | false => exact absurd ((bit0 hc hc1).mpr h) e
    refine tB_ext (bSet_rg _ _) hx (fun i hi => ?_)
    rw [tB_set hc hc1 hi]
    by_cases ei : i = c.toNat
    · rw [ei, e1]; simp
    · simp [ei]
theorem flip_wr {ρ : Int → Int} {c v : Int} (h0 : 0 ≤ ρ 8) (h1 : ρ 8 ≤ 200) (hc : 0 ≤ c) (hc1 : c < 24) (hx : rg (ρ 19)) : wrR ρ (ρ 0) (-1) c v (bAnd (bShr (ρ 19) c) 1) 0 = flipR ρ c v := by
  unfold wrR flipR mkR
  have e19 : ud (kw ρ (ρ 0) (-1) c v 0) (30 + c) v 19 = ρ 19 := by rw [ud_ne (by omega), kw_19 h0 h1]
  rw [e19, mark_same hc (by omega) hx, ← e19, ud_same]
section ST1
variable {d n G : Nat} {mr : MR} {Q : V → MI → Nat → MR → Prop}
theorem u_write (hL : Lay G mr) {e : Int} {mi : MI} {g : Nat} {ρ : Int → Int} (hg : g < G) {s l c v m r : Int} (hR : Rep e mi g ρ) (hI : InvW ρ) (hwf : WfR ρ) (h8 : 0 ≤ ρ 8 ∧ ρ 8 ≤ 200) (hc0 : 0 ≤ c) (hc1 : c < 24) (hm : m = 0 ∨ m = 1) (hQ : ∀ mi', Cg (pSt g) mi mi' → Rep e mi' g (wrR ρ s l c v m r) → Q (vX 0) mi' n mr) : Tx (d+3) mt_X7_write [vR (some (g, 5)), vI s, vI l, vI c, vI v, vI m, vI r] mi n mr Q := by
  have hok : okI G 5 g := hg
  have hok2 : okI G 15 g := Or.inl hg
  obtain ⟨rW, rL, rN, rJ, rS, rH, rC⟩ := hR
  refine tx_intro (ls := [vR (some (g, 5)), vI s, vI l, vI c, vI v, vI m, vI r]) om_X7_write rfl (Nat.le_of_ble_eq_true rfl) ?_
  refine s_iload_n (dc kc_X7_write 0 rfl) rfl <| c_s1r (dc kc_X7_write 1 rfl) cl_X7_91 rfl (Nat.le_of_ble_eq_true rfl) (Nat.zero_le _) (Nat.zero_le _) <| u_isCell <| s_if_neb (tgt := 8) (dc kc_X7_write 2 rfl) rfl (fun c4 => (r_aload_n (dc kc_X7_write 4 rfl) rfl <| s_getO (dc kc_X7_write 5 rfl) fl_X7_31 (ly_5_3 hL (by assumption)) <| s_iload_n (dc kc_X7_write 6 rfl) rfl <| s_iload_n (dc kc_X7_write 7 rfl) rfl <| s_iload_n (dc kc_X7_write 8 rfl) rfl <| r_aload_n (dc kc_X7_write 9 rfl) rfl <| s_getO (dc kc_X7_write 10 rfl) fl_X7_12 (ly_5_0 hL (by assumption)) <| s_iload (dc kc_X7_write 11 rfl) rfl <| c_v5 (dc kc_X7_write 12 rfl) cl_X7_95 rfl (Nat.le_of_ble_eq_true rfl) (Nat.zero_le _) (Nat.zero_le _) ?_)) (fun c4 => (s_return (dc kc_X7_write 3 rfl) rfl (Nat.zero_le _) (Nat.zero_le _) ?_))
  · refine u_add hL hg (v := v) rJ rW hI h8 hc0 hc1 (fun m1 g1 j1 => ?_)
    have k16 : m1 g 16 = mi g 16 := g1.row (fun k => by simp [pJ])
    have k15 : m1 g 15 1 = mi g 15 1 := g1.at (by simp [pJ])
    refine r_aload_n (dc kc_X7_write 13 rfl) rfl <| s_getO (dc kc_X7_write 14 rfl) fl_X7_12 (ly_5_0 hL (by assumption)) <| s_getA (dc kc_X7_write 15 rfl) fl_X7_99 (ly_15_0 hL (by assumption)) <| s_iload_n (dc kc_X7_write 16 rfl) rfl <| s_iload (dc kc_X7_write 17 rfl) rfl <| s_iastore (dc kc_X7_write 18 rfl) rfl (by first | omega | (simp [up] <;> omega)) (by first | omega | (simp [up] <;> omega)) <| r_aload_n (dc kc_X7_write 19 rfl) rfl <| s_getO (dc kc_X7_write 20 rfl) fl_X7_12 (ly_5_0 hL (by assumption)) <| s_iload_n (dc kc_X7_write 21 rfl) rfl <| s_iload (dc kc_X7_write 22 rfl) rfl <| c_v2 (dc kc_X7_write 23 rfl) cl_X7_102 rfl (Nat.le_of_ble_eq_true rfl) (Nat.zero_le _) (Nat.zero_le _) <| u_mark (by first | omega | (simp [up] <;> omega)) (by first | omega | (simp [up] <;> omega)) (by first | omega | assumption | (simp [up] <;> omega)) <| s_return (dc kc_X7_write 24 rfl) rfl (Nat.zero_le _) (Nat.zero_le _) ?_
    have e15 : up m1 g 16 c v g 15 1 = ρ 19 := by rw [up_j (by decide), k15, rW.2]
    rw [e15]
    have hof := fun k hk => wrR_off (k := k) (s := s) (l := l) (v := v) (m := m) (r := r) h8.1 h8.2 hc0 hc1 hk
    have hhi : hiEq ρ (wrR ρ s l c v m r) := fun k hk => hof k (by omega)
    have gg : Cg (pSt g) mi m1 := g1.mono (fun _ _ _ z => by simp [pSt, z])
    have kr : ∀ a b, b ≠ 15 → b ≠ 16 → ¬ (30 ≤ b ∧ b ≤ 36) → up (up m1 g 16 c v) g 15 1 (if m = 0 then bClr (ρ 19) c else bSet (ρ 19) c) a b = mi a b := fun a b z1 z2 z3 => by
      rw [up_j z1, up_j z2]
      exact g1.row (fun k => by simp [pJ]; omega)
    refine hQ _ ((gg.up (by simp [pSt])).up (by simp [pSt])) ⟨⟨fun i a b => ?_, ?_⟩, (rL.row hwf.1 (hof 16 (by omega)) hhi).mv (fun b z1 z2 => kr g b (by omega) (by omega) (by omega)), (rN.row hwf.2 (hof 17 (by omega)) hhi).mv (fun b z1 z2 => kr (g + 10) b (by omega) (by omega) (by omega)), ?_, (rS.row (fun k z1 z2 => hof k (by omega))).mv (kr g 37 (by decide) (by decide) (by decide)) (kr g 38 (by decide) (by decide) (by decide)), (rH.row (fun k hk => hof k (by omega))).mv (fun b z1 z2 => kr g b (by omega) (by omega) (by omega)), (rC.row (fun k hk => hof k (by omega))).mv (fun b z1 z2 => kr g b (by omega) (by omega) (by omega))⟩
    · rw [up_j (by decide), up_ud, k16]
      unfold wrR
      rw [mkR_off (by omega)]
      by_cases ei : i = c
      · rw [ei, ud_at, ud_at]
      · rw [ud_ne ei, ud_ne (by omega), kw_off h8.1 h8.2 (by omega)]
        exact rW.1 i a b
    · rw [up_at]
      unfold wrR mkR
      rw [ud_at, ud_ne (by omega), kw_19 h8.1 h8.2]
    · have k8 := kw_8 (s := s) (l := l) (c := c) (v := v) (r := r) h8.1 h8.2
      refine (j1.row k8.2 (fun k hk => ?_)).mv (fun b z1 z2 => by rw [up_j (by omega), up_j (by omega)])
      unfold wrR
      rw [mkR_off (by omega), ud_ne (by omega)]
  · exfalso; exact c4 ⟨hc0, hc1⟩
theorem u_flipTo (hL : Lay G mr) {e : Int} {mi : MI} {g : Nat} {ρ : Int → Int} (hg : g < G) {c v : Int} (hR : Rep e mi g ρ) (hI : InvW ρ) (hwf : WfR ρ) (h8 : 0 ≤ ρ 8 ∧ ρ 8 ≤ 200) (hx : rg (ρ 19)) (hc0 : 0 ≤ c) (hc1 : c < 24) {s : Int} (hs : s = ρ 0) (hQ : ∀ mi', Cg (pSt g) mi mi' → Rep e mi' g (flipR ρ c v) → Q (vX 0) mi' n mr) : Tx (d+4) mt_X7_flipTo [vR (some (g, 5)), vI s, vI c, vI v] mi n mr Q := by
  have hok : okI G 5 g := hg
  have hok2 : okI G 15 g := Or.inl hg
  have e15 : mi g 15 1 = ρ 19 := hR.1.2
  refine tx_intro (ls := [vR (some (g, 5)), vI s, vI c, vI v]) om_X7_flipTo rfl (Nat.le_of_ble_eq_true rfl) ?_
  refine r_aload_n (dc kc_X7_flipTo 0 rfl) rfl <| s_iload_n (dc kc_X7_flipTo 1 rfl) rfl <| k_i (dc kc_X7_flipTo 2 rfl) rfl <| s_iload_n (dc kc_X7_flipTo 3 rfl) rfl <| s_iload_n (dc kc_X7_flipTo 4 rfl) rfl <| r_aload_n (dc kc_X7_flipTo 5 rfl) rfl <| s_getO (dc kc_X7_flipTo 6 rfl) fl_X7_12 (ly_5_0 hL (by assumption)) <| s_iload_n (dc kc_X7_flipTo 7 rfl) rfl <| c_v1r (dc kc_X7_flipTo 8 rfl) cl_X7_106 rfl (Nat.le_of_ble_eq_true rfl) (Nat.zero_le _) (Nat.zero_le _) <| u_markOf <| k_i (dc kc_X7_flipTo 9 rfl) rfl <| c_v6 (dc kc_X7_flipTo 10 rfl) cl_X7_110 rfl (Nat.le_of_ble_eq_true rfl) (Nat.zero_le _) (Nat.zero_le _) ?_
  rw [e15, hs]
  refine u_write hL hg hR hI hwf h8 hc0 hc1 (by rw [bit_is hc0 (by omega)]; split <;> simp) (fun m1 g1 r1 => ?_)
  refine s_return (dc kc_X7_flipTo 11 rfl) rfl (Nat.zero_le _) (Nat.zero_le _) ?_
  rw [flip_wr h8.1 h8.2 hc0 hc1 hx] at r1
  exact hQ m1 g1 r1
theorem u_mendTo (hL : Lay G mr) {mi : MI} {g : Nat} {ρ : Int → Int} (hg : g < G) {q : PR} (hR : Rep (-1) mi g ρ) (hI : InvW ρ) (hwf : WfR ρ) (h8 : 0 ≤ ρ 8 ∧ ρ 8 ≤ 200) (hc0 : 0 ≤ q.1) (hc1 : q.1 < 24) (hQ : ∀ mi', Cg (fun a b k => pSt g a b k || (a == g && b == 8)) mi mi' → Rep (-1) mi' g (mnd1 ρ q) → Q (vX 0) mi' n mr) : Tx (d+4) mt_X7_mendTo [vR (some (g, 5)), vI q.1, vI q.2] mi n mr Q := by
  have hok : okI G 5 g := hg
  have e0 : mi g 6 0 = ρ 0 := hR.2.2.2.2.2.2.1 0 (by omega) (by omega) (by omega)
  refine tx_intro (ls := [vR (some (g, 5)), vI q.1, vI q.2]) om_X7_mendTo rfl (Nat.le_of_ble_eq_true rfl) ?_
  refine r_aload_n (dc kc_X7_mendTo 0 rfl) rfl <| r_aload_n (dc kc_X7_mendTo 1 rfl) rfl <| s_getA (dc kc_X7_mendTo 2 rfl) fl_X7_42 (ly_5_5 hL (by assumption)) <| k_i (dc kc_X7_mendTo 3 rfl) rfl <| s_iaload (dc kc_X7_mendTo 4 rfl) rfl (by first | omega | (simp [up] <;> omega)) (by first | omega | (simp [up] <;> omega)) <| k_b (dc kc_X7_mendTo 5 rfl) rfl <| s_iload_n (dc kc_X7_mendTo 6 rfl) rfl <| s_iload_n (dc kc_X7_mendTo 7 rfl) rfl <| k_i (dc kc_X7_mendTo 8 rfl) rfl <| k_i (dc kc_X7_mendTo 9 rfl) rfl <| c_v6 (dc kc_X7_mendTo 10 rfl) cl_X7_110 rfl (Nat.le_of_ble_eq_true rfl) (Nat.zero_le _) (Nat.zero_le _) ?_
  rw [e0]
  refine u_write hL hg hR hI hwf h8 hc0 hc1 (Or.inr rfl) (fun m1 g1 r1 => ?_)
  refine r_aload_n (dc kc_X7_mendTo 11 rfl) rfl <| s_getA (dc kc_X7_mendTo 12 rfl) fl_X7_49 (ly_5_7 hL (by assumption)) <| s_iload_n (dc kc_X7_mendTo 13 rfl) rfl <| s_dup2 (dc kc_X7_mendTo 14 rfl) rfl rfl <| s_iaload (dc kc_X7_mendTo 15 rfl) rfl (by first | omega | (simp [up] <;> omega)) (by first | omega | (simp [up] <;> omega)) <| k_i (dc kc_X7_mendTo 16 rfl) rfl <| s_iadd (dc kc_X7_mendTo 17 rfl) <| s_iastore (dc kc_X7_mendTo 18 rfl) rfl (by first | omega | (simp [up] <;> omega)) (by first | omega | (simp [up] <;> omega)) <| s_return (dc kc_X7_mendTo 19 rfl) rfl (Nat.zero_le _) (Nat.zero_le _) ?_
  obtain ⟨rW, rL, rN, rJ, rS, rH, rC⟩ := r1
  have e1 : ∀ k, k ≠ 54 + q.1 → k ≠ 19 → mnd1 ρ q k = wrR ρ (ρ 0) (-2) q.1 q.2 1 0 k := fun k z1 z2 => by
    unfold mnd1 wrR
    rw [mkR_off z2, mkR_off z2, inc_off z1]
  have e19 : mnd1 ρ q 19 = wrR ρ (ρ 0) (-2) q.1 q.2 1 0 19 := by
    unfold mnd1 wrR mkR
    rw [ud_at, ud_at, inc_off (by omega)]
  have hb : ∀ k, k ≠ 54 + q.1 → mnd1 ρ q k = wrR ρ (ρ 0) (-2) q.1 q.2 1 0 k := fun k z => by
    by_cases e : k = 19
    · rw [e]; exact e19
    · exact e1 k z e
  have h16 := wrR_off (k := 16) (s := ρ 0) (l := -2) (v := q.2) (m := 1) (r := 0) h8.1 h8.2 hc0 hc1 (by omega)
  have h17 := wrR_off (k := 17) (s := ρ 0) (l := -2) (v := q.2) (m := 1) (r := 0) h8.1 h8.2 hc0 hc1 (by omega)
  have hhi : hiEq ρ (wrR ρ (ρ 0) (-2) q.1 q.2 1 0) := fun k hk => wrR_off h8.1 h8.2 hc0 hc1 (by omega)
  have k8 : wrR ρ (ρ 0) (-2) q.1 q.2 1 0 8 ≤ 200 := by
    unfold wrR
    rw [mkR_off (by omega), ud_ne (by omega)]
    exact (kw_8 h8.1 h8.2).2
  refine hQ _ ((g1.mono (fun _ _ _ z => by simp [z])).up (by simp)) ⟨(rW.row (fun k hk => hb k (by omega))).mv (up_j (by decide)) (by rw [up_j (by decide)]), (rL.row (fun l a b => (hwf.1 l a (by omega)).hi hhi a) (hb 16 (by omega)) (fun k hk => hb k (by omega))).mv (fun b z1 z2 => up_j (by omega)), (rN.row (fun j a b => (hwf.2 j a (by omega)).hi hhi a) (hb 17 (by omega)) (fun k hk => hb k (by omega))).mv (fun b z1 z2 => up_j (by omega)), (rJ.row k8 (fun k hk => hb k (by omega))).mv (fun b z1 z2 => up_j (by omega)), (rS.row (fun k z1 z2 => hb k (by omega))).mv (up_j (by decide)) (up_j (by decide)), (rH.row (fun k hk => hb k (by omega))).mv (fun b z1 z2 => up_j (by omega)), ?_⟩
  obtain ⟨a1, a2, a3, a4, a5, a6, a7, a8, a9⟩ := rC
  have e8 : m1 g 8 q.1 = wrR ρ (ρ 0) (-2) q.1 q.2 1 0 (54 + q.1) := a3 q.1 hc0 hc1
  refine ⟨fun k a b c => by rw [up_j (by decide), hb k (by omega)]; exact a1 k a b c, fun i a b => by rw [up_j (by decide), hb _ (by omega)]; exact a2 i a b, fun i a b => ?_, fun i a b => by rw [up_j (by decide), hb _ (by omega)]; exact a4 i a b, fun i a b => by rw [up_j (by decide), hb _ (by omega)]; exact a5 i a b, by rw [up_j (by decide), hb _ (by omega)]; exact a6, by rw [up_j (by decide), hb _ (by omega)]; exact a7, by rw [up_j (by decide), hb _ (by omega)]; exact a8, by rw [up_j (by decide), hb _ (by omega)]; exact a9⟩
  rw [up_ud]
  by_cases ei : i = q.1
  · rw [ei, ud_at, e8]
    unfold mnd1 wrR
    rw [mkR_off (by omega), mkR_off (by omega)]
    show _ = ud _ (54 + q.1) _ (54 + q.1)
    rw [ud_at]
  · rw [ud_ne ei, hb _ (by omega)]; exact a3 i a b
end ST1
