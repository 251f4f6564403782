/-! the reference: what stays true of its row: writes and steps -/
/-- what is kept of writes and steps -/
def InvW (ρ : Int → Int) : Prop :=
  (∀ w, 0 ≤ w → w < ρ 8 → (0 ≤ ρ (646 + 7 * w + 2) ∧ ρ (646 + 7 * w + 2) < 24) ∧ biC (ρ (646 + 7 * w + 2)) (ρ (646 + 7 * w + 3)) = 1 ∧ (ρ (646 + 7 * w + 4) = 0 ∨ ρ (646 + 7 * w + 4) = 1) ∧ (0 ≤ ρ (646 + 7 * w) ∧ ρ (646 + 7 * w) ≤ ρ 0) ∧ ρ 20 ≤ ρ (646 + 7 * w))
  ∧ (∀ w, 0 ≤ w → w + 1 < ρ 8 → ρ (646 + 7 * w) ≤ ρ (646 + 7 * (w + 1)))
  ∧ (∀ s, 0 ≤ s → s < 200 → ρ 17 = 0 ∨ ρ (246 + 2 * s) = -1 ∨ (0 ≤ ρ (246 + 2 * s) ∧ ρ (246 + 2 * s) < ρ 17))
  ∧ (ρ 17 = 0 → ρ 0 = 0) ∧ (-1 ≤ ρ 20 ∧ ρ 20 ≤ ρ 0)
/-- the places that writes and steps live in -/
def rlW (k : Int) : Prop := k = 0 ∨ k = 8 ∨ k = 17 ∨ k = 20 ∨ (246 ≤ k ∧ k < 2046)
theorem InvW.cong {ρ ρ' : Int → Int} (h8 : ρ 8 ≤ 200) (h : InvW ρ) (e : ∀ k, rlW k → ρ' k = ρ k) : InvW ρ' := by
  have e0 := e 0 (by unfold rlW; omega)
  have e8 := e 8 (by unfold rlW; omega)
  have e17 := e 17 (by unfold rlW; omega)
  have e20 := e 20 (by unfold rlW; omega)
  have ew : ∀ w f, 0 ≤ w → w < ρ 8 → 0 ≤ f → f < 7 → ρ' (646 + 7 * w + f) = ρ (646 + 7 * w + f) := fun w f h0 h1 h2 h3 => e _ (by unfold rlW; omega)
  have ew0 : ∀ w, 0 ≤ w → w < ρ 8 → ρ' (646 + 7 * w) = ρ (646 + 7 * w) := fun w h0 h1 => e _ (by unfold rlW; omega)
  refine ⟨fun w h0 h1 => ?_, fun w h0 h1 => ?_, fun s h0 h1 => ?_, ?_, ?_⟩
  · rw [e8] at h1
    rw [ew w 2 h0 h1 (by omega) (by omega), ew w 3 h0 h1 (by omega) (by omega), ew w 4 h0 h1 (by omega) (by omega), ew0 w h0 h1, e0, e20]
    exact h.1 w h0 h1
  · rw [e8] at h1
    rw [ew0 w h0 (by omega), ew0 (w + 1) (by omega) h1]
    exact h.2.1 w h0 h1
  · rw [e17, e _ (by unfold rlW; omega)]
    exact h.2.2.1 s h0 h1
  · rw [e17, e0]; exact h.2.2.2.1
  · rw [e20, e0]; exact h.2.2.2.2
section KW
variable {ρ : Int → Int} {s l c v r : Int}
/-- by how much the writes move when one more is kept -/
def shw (ρ : Int → Int) : Int := if ρ 8 = 200 then 1 else 0
theorem kw0_cnt (h1 : ρ 8 ≤ 200) : kw0 ρ 8 = ρ 8 - shw ρ := by
  unfold kw0 shw
  split
  · rename_i e; simp only []; rw [if_neg (by omega), if_neg (by omega), if_pos trivial]; omega
  · omega
theorem kw_cnt (h1 : ρ 8 ≤ 200) : kw ρ s l c v r 8 = ρ 8 - shw ρ + 1 := by
  unfold kw kw1
  rw [ud_at, kw0_cnt h1]
theorem kw0_old {w f : Int} (hw0 : 0 ≤ w) (hw : w < ρ 8 - shw ρ) (h1 : ρ 8 ≤ 200) (hf0 : 0 ≤ f) (hf : f < 7) : kw0 ρ (646 + 7 * w + f) = ρ (646 + 7 * (w + shw ρ) + f) := by
  unfold kw0 shw at *
  split
  · rename_i e
    simp only []
    rw [if_pos e] at hw
    rw [if_pos (by omega)]
    congr 1
    omega
  · rename_i e
    rw [Int.add_zero]
theorem kw_old (h0 : 0 ≤ ρ 8) (h1 : ρ 8 ≤ 200) {w f : Int} (hw0 : 0 ≤ w) (hw : w < ρ 8 - shw ρ) (hf0 : 0 ≤ f) (hf : f < 7) : kw ρ s l c v r (646 + 7 * w + f) = ρ (646 + 7 * (w + shw ρ) + f) := by
  have e := kw0_cnt h1
  unfold kw kw1
  rw [ud_ne (by omega), ud_ne (by omega), ud_ne (by omega), ud_ne (by omega), ud_ne (by omega), ud_ne (by omega), ud_ne (by omega), ud_ne (by omega)]
  exact kw0_old hw0 hw h1 hf0 hf
theorem kw_old0 (h0 : 0 ≤ ρ 8) (h1 : ρ 8 ≤ 200) {w : Int} (hw0 : 0 ≤ w) (hw : w < ρ 8 - shw ρ) : kw ρ s l c v r (646 + 7 * w) = ρ (646 + 7 * (w + shw ρ)) := by
  have := kw_old (s := s) (l := l) (c := c) (v := v) (r := r) h0 h1 hw0 hw (f := 0) (by omega) (by omega)
  rw [Int.add_zero, Int.add_zero] at this
  exact this
theorem kw0_low {k : Int} (hk : k ≠ 8 ∧ k ≠ 20 ∧ (k < 646 ∨ 2039 ≤ k)) : kw0 ρ k = ρ k := by
  unfold kw0
  split
  · simp only []
    rw [if_neg (by omega), if_neg (by omega), if_neg (by omega)]
  · rfl
theorem kw_new (h0 : 0 ≤ ρ 8) (h1 : ρ 8 ≤ 200) (hc0 : 0 ≤ c) (hc1 : c < 24) {w : Int} (hw : w = ρ 8 - shw ρ) : kw ρ s l c v r (646 + 7 * w) = s ∧ kw ρ s l c v r (646 + 7 * w + 1) = l ∧ kw ρ s l c v r (646 + 7 * w + 2) = c ∧ kw ρ s l c v r (646 + 7 * w + 3) = ρ (30 + c) ∧ kw ρ s l c v r (646 + 7 * w + 4) = bAnd (bShr (ρ 19) c) 1 ∧ kw ρ s l c v r (646 + 7 * w + 5) = v ∧ kw ρ s l c v r (646 + 7 * w + 6) = r := by
  have e := kw0_cnt h1
  have hs : shw ρ = 0 ∨ shw ρ = 1 := by unfold shw; split <;> simp
  have hs2 : shw ρ = 1 → ρ 8 = 200 := by unfold shw; split <;> simp_all
  unfold kw kw1
  rw [e, ← hw, kw0_low (k := 30 + c) (by omega), kw0_low (k := 19) (by omega)]
  refine ⟨?_, ?_, ?_, ?_, ?_, ?_, ?_⟩
  · rw [ud_ne (by omega), ud_ne (by omega), ud_ne (by omega), ud_ne (by omega), ud_ne (by omega), ud_ne (by omega), ud_ne (by omega), ud_at]
  · rw [ud_ne (by omega), ud_ne (by omega), ud_ne (by omega), ud_ne (by omega), ud_ne (by omega), ud_ne (by omega), ud_at]
  · rw [ud_ne (by omega), ud_ne (by omega), ud_ne (by omega), ud_ne (by omega), ud_ne (by omega), ud_at]
  · rw [ud_ne (by omega), ud_ne (by omega), ud_ne (by omega), ud_ne (by omega), ud_at]
  · rw [ud_ne (by omega), ud_ne (by omega), ud_ne (by omega), ud_at]
  · rw [ud_ne (by omega), ud_ne (by omega), ud_at]
  · rw [ud_ne (by omega), ud_at]
theorem kw_20 (h0 : 0 ≤ ρ 8) (h1 : ρ 8 ≤ 200) : kw ρ s l c v r 20 = if ρ 8 = 200 then (if ρ 20 < ρ 646 then ρ 646 else ρ 20) else ρ 20 := by
  have e := kw0_cnt h1
  have hs : shw ρ = 0 ∨ shw ρ = 1 := by unfold shw; split <;> simp
  have hs2 : shw ρ = 1 → ρ 8 = 200 := by unfold shw; split <;> simp_all
  unfold kw kw1
  rw [ud_ne (by omega), ud_ne (by omega), ud_ne (by omega), ud_ne (by omega), ud_ne (by omega), ud_ne (by omega), ud_ne (by omega), ud_ne (by omega)]
  unfold kw0
  split
  · simp only []
    rw [if_neg (by omega), if_pos trivial]
  · rfl
theorem shw_rg : shw ρ = 0 ∨ shw ρ = 1 := by unfold shw; split <;> simp
theorem shw_1 : shw ρ = 1 ↔ ρ 8 = 200 := by unfold shw; split <;> simp_all
theorem InvW_kw (h0 : 0 ≤ ρ 8) (h1 : ρ 8 ≤ 200) (hI : InvW ρ) (hV : VC (clR ρ)) (hc0 : 0 ≤ c) (hc1 : c < 24) (hs0 : 0 ≤ s) (hs1 : s ≤ ρ 0) (hs : ∀ w, 0 ≤ w → w < ρ 8 → ρ (646 + 7 * w) ≤ s) (h20 : ρ 20 ≤ s) : InvW (kw ρ s l c v r) := by
  have hcn := kw_cnt (s := s) (l := l) (c := c) (v := v) (r := r) h1
  have hsh := shw_rg (ρ := ρ)
  have hs2 := shw_1 (ρ := ρ)
  have hn := kw_new (s := s) (l := l) (v := v) (r := r) h0 h1 hc0 hc1 rfl
  have ek : ∀ k, k ≠ 8 → k ≠ 20 → k < 646 → kw ρ s l c v r k = ρ k := fun k z1 z2 z3 => kw_off h0 h1 (by omega)
  have e20 : kw ρ s l c v r 20 = if ρ 8 = 200 then ρ 646 else ρ 20 := by
    rw [kw_20 h0 h1]
    by_cases e : ρ 8 = 200
    · rw [if_pos e, if_pos e]
      have := (hI.1 0 (by omega) (by omega)).2.2.2.2
      rw [show (646 : Int) + 7 * 0 = 646 by decide] at this
      split <;> omega
    · rw [if_neg e, if_neg e]
  have hmono : ∀ (m : Nat) (w : Int), 0 ≤ w → w + m < ρ 8 → ρ (646 + 7 * w) ≤ ρ (646 + 7 * (w + m)) := by
    intro m
    induction m with
    | zero => intro w _ _; simp
    | succ m ih =>
      intro w g0 g1
      have a := ih w g0 (by omega)
      have b := hI.2.1 (w + m) (by omega) (by omega)
      rw [show w + (m : Int) + 1 = w + ((m + 1 : Nat) : Int) by omega] at b
      omega
  have hfst : ∀ w, 0 ≤ w → w < ρ 8 → (if ρ 8 = 200 then ρ 646 else ρ 20) ≤ ρ (646 + 7 * w) := by
    intro w g0 g1
    by_cases e : ρ 8 = 200
    · rw [if_pos e]
      have := hmono w.toNat 0 (by omega) (by omega)
      rw [show (646 : Int) + 7 * 0 = 646 by decide, show (0 : Int) + (w.toNat : Int) = w by omega] at this
      exact this
    · rw [if_neg e]; exact (hI.1 w g0 g1).2.2.2.2
  refine ⟨fun w g0 g1 => ?_, fun w g0 g1 => ?_, fun w g0 g1 => ?_, ?_, ?_⟩
  · rw [hcn] at g1
    rw [ek 0 (by omega) (by omega) (by omega), e20]
    by_cases e : w < ρ 8 - shw ρ
    · rw [kw_old h0 h1 g0 e (by omega) (by omega), kw_old h0 h1 g0 e (by omega) (by omega), kw_old h0 h1 g0 e (by omega) (by omega), kw_old0 h0 h1 g0 e]
      have := hI.1 (w + shw ρ) (by omega) (by omega)
      exact ⟨this.1, this.2.1, this.2.2.1, this.2.2.2.1, hfst _ (by omega) (by omega)⟩
    · have e2 : w = ρ 8 - shw ρ := by omega
      rw [e2, hn.1, hn.2.2.1, hn.2.2.2.1, hn.2.2.2.2.1]
      refine ⟨⟨hc0, hc1⟩, VC_iff.mp hV c hc0 hc1, ?_, ⟨hs0, hs1⟩, ?_⟩
      · rw [bit_is hc0 (by omega)]; split <;> simp
      · by_cases e : ρ 8 = 200
        · rw [if_pos e]
          have := hs 0 (by omega) (by omega)
          rw [show (646 : Int) + 7 * 0 = 646 by decide] at this
          exact this
        · rw [if_neg e]; exact h20
  · rw [hcn] at g1
    rw [kw_old0 h0 h1 g0 (by omega)]
    by_cases e : w + 1 < ρ 8 - shw ρ
    · rw [kw_old0 h0 h1 (by omega) e]
      have := hI.2.1 (w + shw ρ) (by omega) (by omega)
      rw [show w + 1 + shw ρ = w + shw ρ + 1 by omega]
      exact this
    · have e2 : w + 1 = ρ 8 - shw ρ := by omega
      rw [e2, hn.1]
      exact hs _ (by omega) (by omega)
  · rw [ek 17 (by omega) (by omega) (by omega), ek (246 + 2 * w) (by omega) (by omega) (by omega)]
    exact hI.2.2.1 w g0 g1
  · rw [ek 17 (by omega) (by omega) (by omega), ek 0 (by omega) (by omega) (by omega)]
    exact hI.2.2.2.1
  · rw [e20, ek 0 (by omega) (by omega) (by omega)]
    by_cases e : ρ 8 = 200
    · rw [if_pos e]
      have := (hI.1 0 (by omega) (by omega)).2.2.2
      rw [show (646 : Int) + 7 * 0 = 646 by decide] at this
      omega
    · rw [if_neg e]; exact hI.2.2.2.2
/-- the steps of writes behind one more -/
theorem kw_steps (h0 : 0 ≤ ρ 8) (h1 : ρ 8 ≤ 200) (hc0 : 0 ≤ c) (hc1 : c < 24) (hs : ∀ w, 0 ≤ w → w < ρ 8 → ρ (646 + 7 * w) ≤ s) : ∀ w, 0 ≤ w → w < kw ρ s l c v r 8 → kw ρ s l c v r (646 + 7 * w) ≤ s := by
  intro w g0 g1
  have hsh := shw_rg (ρ := ρ)
  rw [kw_cnt h1] at g1
  by_cases e : w < ρ 8 - shw ρ
  · rw [kw_old0 h0 h1 g0 e]
    exact hs _ (by omega) (by omega)
  · have e2 : w = ρ 8 - shw ρ := by omega
    rw [(kw_new (s := s) (l := l) (v := v) (r := r) h0 h1 hc0 hc1 e2).1]
    omega
end KW
/-- a line's work keeps it all -/
theorem InvW_lnR {ρ : Int → Int} {j s : Int} (h0 : 0 ≤ ρ 8) (h1 : ρ 8 ≤ 200) (hI : InvW ρ) (hV : VC (clR ρ)) (hw : WfLine ρ j) (hs0 : 0 ≤ s) (hs1 : s ≤ ρ 0) (hs : ∀ w, 0 ≤ w → w < ρ 8 → ρ (646 + 7 * w) ≤ s) (h20 : ρ 20 ≤ s) : InvW (lnR ρ j s 0) ∧ (∀ w, 0 ≤ w → w < lnR ρ j s 0 8 → lnR ρ j s 0 (646 + 7 * w) ≤ s) ∧ lnR ρ j s 0 20 ≤ s := by
  unfold lnR
  by_cases e : (lnO ρ j).1 = 2
  · have h2 := lnO_2 hV hw e
    rw [if_pos e, if_pos rfl]
    have k8 := kw_8 (s := s) (l := j) (c := (lnO ρ j).2.1) (v := (lnO ρ j).2.2.1) (r := mkM (lnO ρ j).2.2.2) h0 h1
    have hk := InvW_kw (l := j) (v := (lnO ρ j).2.2.1) (r := mkM (lnO ρ j).2.2.2) h0 h1 hI hV h2.2.1 h2.2.2 hs0 hs1 hs h20
    have hst := kw_steps (l := j) (v := (lnO ρ j).2.2.1) (r := mkM (lnO ρ j).2.2.2) h0 h1 h2.2.1 h2.2.2 hs
    have hof : ∀ k, k ≠ 19 → k ≠ 30 + (lnO ρ j).2.1 → mkR (ud (kw ρ s j (lnO ρ j).2.1 (lnO ρ j).2.2.1 (mkM (lnO ρ j).2.2.2)) (30 + (lnO ρ j).2.1) (lnO ρ j).2.2.1) (lnO ρ j).2.1 (mkd ρ (lnO ρ j).2.2.2) k = kw ρ s j (lnO ρ j).2.1 (lnO ρ j).2.2.1 (mkM (lnO ρ j).2.2.2) k := fun k z1 z2 => by
      unfold mkR
      rw [ud_ne z1, ud_ne z2]
    refine ⟨hk.cong k8.2 (fun k hk => hof k (by unfold rlW at hk; omega) (by unfold rlW at hk; omega)), fun w g0 g1 => ?_, ?_⟩
    · rw [hof 8 (by omega) (by omega)] at g1
      rw [hof _ (by omega) (by omega)]
      exact hst w g0 g1
    · rw [hof _ (by omega) (by omega), kw_20 h0 h1]
      by_cases e2 : ρ 8 = 200
      · rw [if_pos e2]
        have := hs 0 (by omega) (by omega)
        rw [show (646 : Int) + 7 * 0 = 646 by decide] at this
        split <;> omega
      · rw [if_neg e2]; exact h20
  · rw [if_neg e]; exact ⟨hI, hs, h20⟩
theorem InvW_flipR {ρ : Int → Int} {c v : Int} (h00 : 0 ≤ ρ 0) (h0 : 0 ≤ ρ 8) (h1 : ρ 8 ≤ 200) (hI : InvW ρ) (hV : VC (clR ρ)) (hc0 : 0 ≤ c) (hc1 : c < 24) : InvW (flipR ρ c v) := by
  have k8 := kw_8 (s := ρ 0) (l := -1) (c := c) (v := v) (r := 0) h0 h1
  have hk := InvW_kw (s := ρ 0) (l := -1) (c := c) (v := v) (r := 0) h0 h1 hI hV hc0 hc1 h00 (Int.le_refl _) (fun w g0 g1 => (hI.1 w g0 g1).2.2.2.1.2) hI.2.2.2.2.2
  unfold flipR
  exact hk.cong k8.2 (fun k z => by unfold rlW at z; exact ud_ne (by omega))
theorem InvW_lotR {ρ : Int → Int} (h00 : 0 ≤ ρ 0) (h0 : 0 ≤ ρ 8) (h1 : ρ 8 ≤ 200) (hI : InvW ρ) (hV : VC (clR ρ)) : InvW (lotR ρ) := by
  have hc := lotC_rg (ρ := ρ)
  unfold lotR
  split
  · exact hI
  · split
    · exact hI.cong h1 (fun k z => by unfold rlW at z; exact drw_ne (by omega))
    · have e : ∀ k, k ≠ 10 → drw (drw (drw ρ)) k = ρ k := fun k z => drw3 z
      have h3 : InvW (drw (drw (drw ρ))) := hI.cong h1 (fun k z => by unfold rlW at z; exact e _ (by omega))
      have hf := InvW_flipR (ρ := drw (drw (drw ρ))) (c := lotC ρ) (v := lotV ρ) (by rw [e 0 (by omega)]; exact h00) (by rw [e 8 (by omega)]; exact h0) (by rw [e 8 (by omega)]; exact h1) h3 (hV.ag (fun i g0 g1 => e _ (by omega))) hc.1 hc.2
      exact hf.cong (flipR_8 (by rw [e 8 (by omega)]; exact h0) (by rw [e 8 (by omega)]; exact h1) hc.1).2 (fun k z => by unfold rlW at z; exact inc_off (by omega))
