/-! the reference: one step -/
theorem VC_iff {c : Int → Int} : VC c ↔ ∀ i, 0 ≤ i → i < 24 → biC i (c i) = 1 := by
  unfold biC
  simp only [bi_eq1]
  constructor
  · intro h i h0 h1
    by_cases a : i < 3
    · have := h.1 i h0 a; omega
    · by_cases b : i < 6
      · have := h.2.1 i (by omega) b; omega
      · have := h.nd (x := (i - 6) / 3) (by omega) (by omega)
        have hm : i % 3 = 0 ∨ i % 3 = 1 ∨ i % 3 = 2 := by omega
        rcases hm with e | e | e
        · rw [show 6 + 3 * ((i - 6) / 3) = i by omega] at this; omega
        · rw [show 7 + 3 * ((i - 6) / 3) = i by omega] at this; omega
        · rw [show 8 + 3 * ((i - 6) / 3) = i by omega] at this; omega
  · intro h
    refine ⟨fun i h0 h1 => by have := h i h0 (by omega); omega, fun i h0 h1 => by have := h i (by omega) (by omega); omega, fun x h0 h1 => ?_⟩
    have a := h (6 + 3 * x) (by omega) (by omega)
    have b := h (7 + 3 * x) (by omega) (by omega)
    have c := h (8 + 3 * x) (by omega) (by omega)
    omega
/-- cells that change to what they can be -/
theorem VC.wr {c c' : Int → Int} (hc : VC c) (h : ∀ i, 0 ≤ i → i < 24 → c' i = c i ∨ biC i (c' i) = 1) : VC c' := VC_iff.mpr fun i h0 h1 => (h i h0 h1).elim (fun e => by rw [e]; exact VC_iff.mp hc i h0 h1) id
theorem kw_off {ρ : Int → Int} {s l c v r k : Int} (h0 : 0 ≤ ρ 8) (h1 : ρ 8 ≤ 200) (hk : k ≠ 8 ∧ k ≠ 20 ∧ (k < 646 ∨ 2046 ≤ k)) : kw ρ s l c v r k = ρ k := by
  have h8 := kw0_8 h0 h1
  unfold kw kw1
  rw [ud_ne (by omega), ud_ne (by omega), ud_ne (by omega), ud_ne (by omega), ud_ne (by omega), ud_ne (by omega), ud_ne (by omega), ud_ne (by omega)]
  unfold kw0
  split
  · simp only []
    rw [if_neg (by omega), if_neg (by omega), if_neg (by omega)]
  · rfl
theorem kw_8 {ρ : Int → Int} {s l c v r : Int} (h0 : 0 ≤ ρ 8) (h1 : ρ 8 ≤ 200) : 0 ≤ kw ρ s l c v r 8 ∧ kw ρ s l c v r 8 ≤ 200 := by
  have h8 := kw0_8 h0 h1
  unfold kw kw1
  rw [ud_at]
  omega
/-- a line that writes: the cell and what it can be -/
theorem lnA_2 {c : Int → Int} (hc : VC c) {t : Int} {p v w : List CT} (ht0 : 0 ≤ t) (ht9 : t ≤ 9) (hl : Lin t p v w) (h : (lnA c t p v w).1 = 2) : biC (lnA c t p v w).2.1 (lnA c t p v w).2.2.1 = 1 ∧ 0 ≤ (lnA c t p v w).2.1 ∧ (lnA c t p v w).2.1 < 24 := by
  have k3 : ∀ nd y r, -1 ≤ nd → nd ≤ 5 → (t < 6 ∨ 8 < t → nd = 0) → (fin3 t nd y r).1 = 2 → biC (fin3 t nd y r).2.1 (fin3 t nd y r).2.2.1 = 1 ∧ 0 ≤ (fin3 t nd y r).2.1 ∧ (fin3 t nd y r).2.1 < 24 := by
    intro nd y r h0 h1 h2 h
    unfold fin3 at h ⊢
    by_cases e1 : nd = -1
    · rw [if_pos e1] at h; cases h
    · rw [if_neg e1] at h ⊢
      by_cases e2 : t = 9
      · rw [if_pos e2] at h; cases h
      · rw [if_neg e2] at h ⊢
        by_cases e3 : biC (t + 3 * nd) y = 1
        · rw [if_pos e3]
          refine ⟨e3, ?_⟩
          show 0 ≤ t + 3 * nd ∧ t + 3 * nd < 24
          omega
        · rw [if_neg e3] at h; cases h
  have k2 : ∀ nd r, -1 ≤ nd → nd ≤ 5 → (t < 6 ∨ 8 < t → nd = 0) → (fin2 c t v nd r).1 = 2 → biC (fin2 c t v nd r).2.1 (fin2 c t v nd r).2.2.1 = 1 ∧ 0 ≤ (fin2 c t v nd r).2.1 ∧ (fin2 c t v nd r).2.1 < 24 := by
    intro nd r h0 h1 h2 h
    unfold fin2 at h ⊢
    split at h
    · exact k3 _ _ _ h0 h1 h2 h
    · cases h
  have k1 : ∀ r, (fin1 c t p v r).1 = 2 → biC (fin1 c t p v r).2.1 (fin1 c t p v r).2.2.1 = 1 ∧ 0 ≤ (fin1 c t p v r).2.1 ∧ (fin1 c t p v r).2.1 < 24 := by
    intro r h
    unfold fin1 at h ⊢
    by_cases e : 6 ≤ t ∧ t ≤ 8
    · rw [if_pos e] at h ⊢
      split at h
      · rename_i nd tl r1 he
        rcases evs_ty hc p (st := []) r (hl.1 e.1 e.2) trivial with z | ⟨s1, r2, z1, z2, _⟩
        · rw [z] at he; cases he
        · rw [z1] at he
          injection he with he
          injection he with e5 e6
          subst e5
          have := z2.1.1 rfl
          exact k2 _ _ this.1 this.2 (fun z => absurd z (by omega)) h
      · cases h
    · rw [if_neg e] at h ⊢
      exact k2 _ _ (by decide) (by decide) (fun _ => rfl) h
  unfold lnA at h ⊢
  by_cases e : w = []
  · rw [if_pos e] at h ⊢
    exact k1 _ h
  · rw [if_neg e] at h ⊢
    split at h
    · rename_i y tl r2 he
      by_cases e2 : y = 0
      · rw [if_pos e2] at h; cases h
      · rw [if_neg e2] at h ⊢; exact k1 _ h
    · cases h
theorem lnA_rg {c : Int → Int} {t : Int} {p v w : List CT} : 0 ≤ (lnA c t p v w).1 ∧ (lnA c t p v w).1 ≤ 3 := by
  have k3 : ∀ nd y r, 0 ≤ (fin3 t nd y r).1 ∧ (fin3 t nd y r).1 ≤ 3 := by
    intro nd y r
    unfold fin3
    repeat' split
    all_goals (first | (show (0 : Int) ≤ 1 ∧ (1 : Int) ≤ 3; decide) | (show (0 : Int) ≤ 2 ∧ (2 : Int) ≤ 3; decide) | (show (0 : Int) ≤ 3 ∧ (3 : Int) ≤ 3; decide))
  have k2 : ∀ nd r, 0 ≤ (fin2 c t v nd r).1 ∧ (fin2 c t v nd r).1 ≤ 3 := by
    intro nd r
    unfold fin2
    split
    · exact k3 _ _ _
    · show (0 : Int) ≤ 1 ∧ (1 : Int) ≤ 3; decide
  have k1 : ∀ r, 0 ≤ (fin1 c t p v r).1 ∧ (fin1 c t p v r).1 ≤ 3 := by
    intro r
    unfold fin1
    split
    · split
      · exact k2 _ _
      · show (0 : Int) ≤ 1 ∧ (1 : Int) ≤ 3; decide
    · exact k2 _ _
  unfold lnA
  split
  · exact k1 _
  · split
    · split
      · show (0 : Int) ≤ 0 ∧ (0 : Int) ≤ 3; decide
      · exact k1 _
    · show (0 : Int) ≤ 1 ∧ (1 : Int) ≤ 3; decide
theorem WfTgt.rg {ρ : Int → Int} {j : Int} (h : WfTgt ρ j) : 0 ≤ tgtOf ρ j ∧ tgtOf ρ j ≤ 9 := by rcases h.cs with h | h | h | h | h | h <;> omega
theorem lnO_2 {ρ : Int → Int} {j : Int} (hc : VC (clR ρ)) (hw : WfLine ρ j) (h : (lnO ρ j).1 = 2) : biC (lnO ρ j).2.1 (lnO ρ j).2.2.1 = 1 ∧ 0 ≤ (lnO ρ j).2.1 ∧ (lnO ρ j).2.1 < 24 := lnA_2 hc hw.1.rg.1 hw.1.rg.2 hw.2.2 h
/-- slots that steps leave alone -/
def fx (k : Int) : Prop := (9 ≤ k ∧ k ≤ 17 ∧ k ≠ 10) ∨ (54 ≤ k ∧ k < 110) ∨ 2046 ≤ k
theorem lnR_off {ρ : Int → Int} {j s p k : Int} (hc : VC (clR ρ)) (hw : WfLine ρ j) (h0 : 0 ≤ ρ 8) (h1 : ρ 8 ≤ 200) (hk : k ≠ 8 ∧ k ≠ 20 ∧ k ≠ 19 ∧ (k < 30 ∨ 54 ≤ k ∧ k < 646 ∨ 2046 ≤ k)) : lnR ρ j s p k = ρ k := by
  unfold lnR
  by_cases e : (lnO ρ j).1 = 2
  · have := lnO_2 hc hw e
    rw [if_pos e]
    unfold mkR
    rw [ud_ne (by omega), ud_ne (by omega)]
    split
    · exact kw_off h0 h1 (by omega)
    · rfl
  · rw [if_neg e]
theorem lnR_8 {ρ : Int → Int} {j s p : Int} (hc : VC (clR ρ)) (hw : WfLine ρ j) (h0 : 0 ≤ ρ 8) (h1 : ρ 8 ≤ 200) : 0 ≤ lnR ρ j s p 8 ∧ lnR ρ j s p 8 ≤ 200 := by
  unfold lnR
  by_cases e : (lnO ρ j).1 = 2
  · have := lnO_2 hc hw e
    rw [if_pos e]
    unfold mkR
    rw [ud_ne (by omega), ud_ne (by omega)]
    split
    · exact kw_8 h0 h1
    · exact ⟨h0, h1⟩
  · rw [if_neg e]; exact ⟨h0, h1⟩
theorem lnR_cl {ρ : Int → Int} {j s p i : Int} (hc : VC (clR ρ)) (hw : WfLine ρ j) (h0 : 0 ≤ ρ 8) (h1 : ρ 8 ≤ 200) (hi0 : 0 ≤ i) (hi1 : i < 24) : lnR ρ j s p (30 + i) = if (lnO ρ j).1 = 2 ∧ i = (lnO ρ j).2.1 then (lnO ρ j).2.2.1 else ρ (30 + i) := by
  unfold lnR
  by_cases e : (lnO ρ j).1 = 2
  · have := lnO_2 hc hw e
    rw [if_pos e]
    unfold mkR
    rw [ud_ne (by omega)]
    by_cases e2 : i = (lnO ρ j).2.1
    · rw [e2, ud_at, if_pos ⟨e, rfl⟩]
    · have hn : ¬ ((lnO ρ j).1 = 2 ∧ i = (lnO ρ j).2.1) := fun z => e2 z.2
      rw [ud_ne (by omega), if_neg hn]
      split
      · exact kw_off h0 h1 (by omega)
      · rfl
  · rw [if_neg e, if_neg (fun z => e z.1)]
theorem lnR_VC {ρ : Int → Int} {j s p : Int} (hc : VC (clR ρ)) (hw : WfLine ρ j) (h0 : 0 ≤ ρ 8) (h1 : ρ 8 ≤ 200) : VC (clR (lnR ρ j s p)) := hc.wr fun i hi0 hi1 => by
  show lnR ρ j s p (30 + i) = ρ (30 + i) ∨ biC i (lnR ρ j s p (30 + i)) = 1
  rw [lnR_cl hc hw h0 h1 hi0 hi1]
  by_cases e : (lnO ρ j).1 = 2 ∧ i = (lnO ρ j).2.1
  · rw [if_pos e, e.2]; exact Or.inr (lnO_2 hc hw e.1).1
  · rw [if_neg e]; exact Or.inl rfl
theorem inc_off {ρ : Int → Int} {k v i : Int} (h : i ≠ k) : inc ρ k v i = ρ i := ud_ne h
theorem lot_bi {ρ : Int → Int} : biC (lotC ρ) (lotV ρ) = 1 := by
  have := lotC_rg (ρ := ρ)
  have h3 := drw_rg (ρ := drw (drw ρ))
  unfold biC
  rw [bi_eq1]
  unfold lotV
  split <;> omega
theorem flipR_off {ρ : Int → Int} {c v k : Int} (h0 : 0 ≤ ρ 8) (h1 : ρ 8 ≤ 200) (hk : k ≠ 8 ∧ k ≠ 20 ∧ k ≠ 30 + c ∧ (k < 646 ∨ 2046 ≤ k)) : flipR ρ c v k = ρ k := by
  unfold flipR
  rw [ud_ne (by omega)]
  exact kw_off h0 h1 (by omega)
theorem flipR_8 {ρ : Int → Int} {c v : Int} (h0 : 0 ≤ ρ 8) (h1 : ρ 8 ≤ 200) (hc : 0 ≤ c) : 0 ≤ flipR ρ c v 8 ∧ flipR ρ c v 8 ≤ 200 := by
  unfold flipR
  rw [ud_ne (by omega)]
  exact kw_8 h0 h1
theorem flipR_VC {ρ : Int → Int} {c v : Int} (hc : VC (clR ρ)) (h0 : 0 ≤ ρ 8) (h1 : ρ 8 ≤ 200) (hv : biC c v = 1) : VC (clR (flipR ρ c v)) := hc.wr fun i hi0 hi1 => by
  show flipR ρ c v (30 + i) = ρ (30 + i) ∨ biC i (flipR ρ c v (30 + i)) = 1
  by_cases e : i = c
  · subst e
    exact Or.inr (by unfold flipR; rw [ud_at]; exact hv)
  · exact Or.inl (flipR_off h0 h1 (by omega))
theorem drw3 {ρ : Int → Int} {k : Int} (h : k ≠ 10) : drw (drw (drw ρ)) k = ρ k := by rw [drw_ne h, drw_ne h, drw_ne h]
theorem lotR_off {ρ : Int → Int} {k : Int} (h0 : 0 ≤ ρ 8) (h1 : ρ 8 ≤ 200) (hk : k ≠ 5 ∧ k ≠ 8 ∧ k ≠ 10 ∧ k ≠ 20 ∧ (k < 30 ∨ 54 ≤ k ∧ k < 646 ∨ 2046 ≤ k)) : lotR ρ k = ρ k := by
  have hc := lotC_rg (ρ := ρ)
  unfold lotR
  split
  · rfl
  · split
    · exact drw_ne (by omega)
    · rw [inc_off (by omega), flipR_off (by rw [drw3 (by decide)]; exact h0) (by rw [drw3 (by decide)]; exact h1) (by omega), drw3 (by omega)]
theorem lotR_8 {ρ : Int → Int} (h0 : 0 ≤ ρ 8) (h1 : ρ 8 ≤ 200) : 0 ≤ lotR ρ 8 ∧ lotR ρ 8 ≤ 200 := by
  have hc := lotC_rg (ρ := ρ)
  unfold lotR
  split
  · exact ⟨h0, h1⟩
  · split
    · rw [drw_ne (by decide)]; exact ⟨h0, h1⟩
    · rw [inc_off (by decide)]; exact flipR_8 (by rw [drw3 (by decide)]; exact h0) (by rw [drw3 (by decide)]; exact h1) hc.1
theorem lotR_10 {ρ : Int → Int} (h0 : 0 ≤ ρ 8) (h1 : ρ 8 ≤ 200) (h10 : 0 ≤ ρ 10 ∧ ρ 10 < 1000003) : 0 ≤ lotR ρ 10 ∧ lotR ρ 10 < 1000003 := by
  have hc := lotC_rg (ρ := ρ)
  unfold lotR
  split
  · exact h10
  · split
    · exact drw_rg
    · rw [inc_off (by decide), flipR_off (by rw [drw3 (by decide)]; exact h0) (by rw [drw3 (by decide)]; exact h1) (by omega)]; exact drw_rg
theorem lotR_VC {ρ : Int → Int} (hc : VC (clR ρ)) (h0 : 0 ≤ ρ 8) (h1 : ρ 8 ≤ 200) : VC (clR (lotR ρ)) := by
  unfold lotR
  split
  · exact hc
  · split
    · exact hc.ag (fun i h0 h1 => drw_ne (by omega))
    · have h := flipR_VC (c := lotC ρ) (v := lotV ρ) (hc.ag (c' := clR (drw (drw (drw ρ)))) (fun i h0 h1 => drw3 (by omega))) (by rw [drw3 (by decide)]; exact h0) (by rw [drw3 (by decide)]; exact h1) lot_bi
      exact h.ag (fun i h0 h1 => inc_off (by omega))
/-! one step, piece by piece -/
def rcS (ρ : Int → Int) : Int := rcO (lnO ρ (ρ 7))
def stp1 (ρ : Int → Int) : Int → Int := lnR ρ (ρ 7) (ρ 0) 0
def payB (r : Int → Int) (h : Int) : Int → Int := inc (inc r 4 h) 3 (1 - h)
def payR (r : Int → Int) (h p : Int) : Int → Int := if h = 0 ∧ r 18 < 100 then inc (ud (payB r h) (146 + r 18) p) 18 1 else payB r h
def stp2 (ρ : Int → Int) : Int → Int := inc (inc (ud (stp1 ρ) 7 ((ρ 7 + 1) % ρ 17)) 1 (bi (rcS ρ = 1))) 2 (bi (rcS ρ = 2))
def stp3 (ρ : Int → Int) : Int → Int := if rcS ρ = 4 then payR (stp2 ρ) (mkd ρ (lnO ρ (ρ 7)).2.2.2) (lnO ρ (ρ 7)).2.2.1 else stp2 ρ
def stp4 (ρ : Int → Int) : Int → Int := ud (ud (stp3 ρ) (246 + 2 * (ρ 0 % 200)) (ρ 7)) (246 + 2 * (ρ 0 % 200) + 1) (bi (rcS ρ = 2))
def stp5 (ρ : Int → Int) : Int → Int := lotR (stp4 ρ)
def hS (ρ : Int → Int) (l : Int) : Int := valA (clR (stp5 ρ)) (lawC ρ l)
def stp6 (ρ : Int → Int) : Int → Int := f1 (stp5 ρ) (ρ 0) (hS ρ) (ρ 16)
def rsts (ρ : Int → Int) : Prop := ρ 12 ≠ -1 ∧ ρ 12 ≤ ρ 7 ∧ ρ 7 ≤ ρ 13 - 1
def rstI (ρ : Int → Int) : Int := bi (ρ 12 ≠ -1 ∧ ρ 12 ≤ ρ 7 ∧ ρ 7 ≤ ρ 13 - 1)
def aS (ρ : Int → Int) (l : Int) : Int := bi (ρ 11 = 3 ∨ (ρ 11 = 1 ∧ rcS ρ ≠ 1 ∧ rcS ρ ≠ 2 ∧ tgtOf ρ (ρ 7) ∈ needL (lawC ρ l)) ∨ (ρ 11 = 2 ∧ l = ρ 0 % ρ 16))
def stp7 (ρ : Int → Int) : Int → Int := if rstI ρ = 1 then stp6 ρ else f2 (stp6 ρ) (ρ 0) (hS ρ) (aS ρ) (ρ 16).toNat
def stpR (ρ : Int → Int) : Int → Int := ud (stp7 ρ) 0 (ρ 0 + 1)
def Inv0 (ρ : Int → Int) : Prop := VC (clR ρ) ∧ (0 ≤ ρ 0 ∧ ρ 0 ≤ 1000000) ∧ (0 ≤ ρ 7 ∧ (0 < ρ 17 → ρ 7 < ρ 17)) ∧ (0 ≤ ρ 8 ∧ ρ 8 ≤ 200) ∧ (0 ≤ ρ 10 ∧ ρ 10 < 1000003) ∧ (0 ≤ ρ 16 ∧ ρ 16 ≤ 12) ∧ (0 ≤ ρ 17 ∧ ρ 17 ≤ 12) ∧ (0 ≤ ρ 18 ∧ ρ 18 ≤ 100 ∧ 0 ≤ ρ 13 ∧ ρ 13 ≤ 12) ∧ (∀ l, 0 ≤ l → l < ρ 16 → WfLaw ρ l) ∧ (∀ j, 0 ≤ j → j < ρ 17 → WfLine ρ j)
section REF12
variable {ρ : Int → Int}
theorem stp2_off (hI : Inv0 ρ) (h17 : 0 < ρ 17) {k : Int} (hk : k ≠ 1 ∧ k ≠ 2 ∧ k ≠ 7 ∧ k ≠ 8 ∧ k ≠ 20 ∧ k ≠ 19 ∧ (k < 30 ∨ 54 ≤ k ∧ k < 646 ∨ 2046 ≤ k)) : stp2 ρ k = ρ k := by
  obtain ⟨hc, h0, h7, h8, h10, h16, h17', h18, hl, hj⟩ := hI
  unfold stp2
  rw [inc_off (by omega), inc_off (by omega), ud_ne (by omega)]
  exact lnR_off hc (hj _ h7.1 (h7.2 h17)) h8.1 h8.2 (by omega)
theorem stp3_off (hI : Inv0 ρ) (h17 : 0 < ρ 17) {k : Int} (hk : k ≠ 1 ∧ k ≠ 2 ∧ k ≠ 3 ∧ k ≠ 4 ∧ k ≠ 7 ∧ k ≠ 8 ∧ k ≠ 18 ∧ k ≠ 20 ∧ k ≠ 19 ∧ (k < 30 ∨ 54 ≤ k ∧ k < 146 ∨ 246 ≤ k ∧ k < 646 ∨ 2046 ≤ k)) : stp3 ρ k = ρ k := by
  have h18 := hI.2.2.2.2.2.2.2.1
  have e18 := stp2_off hI h17 (k := 18) (by omega)
  have e := stp2_off hI h17 (k := k) (by omega)
  unfold stp3
  split
  · unfold payR
    split
    · rw [inc_off (by omega), ud_ne (by omega)]
      unfold payB
      rw [inc_off (by omega), inc_off (by omega), e]
    · unfold payB
      rw [inc_off (by omega), inc_off (by omega), e]
  · exact e
theorem stp4_off (hI : Inv0 ρ) (h17 : 0 < ρ 17) {k : Int} (hk : k ≠ 1 ∧ k ≠ 2 ∧ k ≠ 3 ∧ k ≠ 4 ∧ k ≠ 7 ∧ k ≠ 8 ∧ k ≠ 18 ∧ k ≠ 20 ∧ k ≠ 19 ∧ (k < 30 ∨ 54 ≤ k ∧ k < 146 ∨ 2046 ≤ k)) : stp4 ρ k = ρ k := by
  unfold stp4
  rw [ud_ne (by omega), ud_ne (by omega)]
  exact stp3_off hI h17 (by omega)
theorem stp3_cl (hI : Inv0 ρ) (h17 : 0 < ρ 17) {k : Int} (hk : 8 ≤ k ∧ k < 146 ∧ k ≠ 18) : stp3 ρ k = stp1 ρ k := by
  have h18 := hI.2.2.2.2.2.2.2.1
  have e18 := stp2_off hI h17 (k := 18) (by omega)
  have e : stp2 ρ k = stp1 ρ k := by unfold stp2; rw [inc_off (by omega), inc_off (by omega), ud_ne (by omega)]
  unfold stp3
  split
  · unfold payR
    split
    · rw [inc_off (by omega), ud_ne (by omega)]
      unfold payB
      rw [inc_off (by omega), inc_off (by omega), e]
    · unfold payB
      rw [inc_off (by omega), inc_off (by omega), e]
  · exact e
theorem stp4_cl (hI : Inv0 ρ) (h17 : 0 < ρ 17) {k : Int} (hk : 8 ≤ k ∧ k < 146 ∧ k ≠ 18) : stp4 ρ k = stp1 ρ k := by
  unfold stp4
  rw [ud_ne (by omega), ud_ne (by omega)]
  exact stp3_cl hI h17 hk
theorem stp4_8 (hI : Inv0 ρ) (h17 : 0 < ρ 17) : 0 ≤ stp4 ρ 8 ∧ stp4 ρ 8 ≤ 200 := by
  rw [stp4_cl hI h17 (by omega)]
  exact lnR_8 hI.1 (hI.2.2.2.2.2.2.2.2.2 _ hI.2.2.1.1 (hI.2.2.1.2 h17)) hI.2.2.2.1.1 hI.2.2.2.1.2
theorem stp4_VC (hI : Inv0 ρ) (h17 : 0 < ρ 17) : VC (clR (stp4 ρ)) := (lnR_VC (s := ρ 0) (p := 0) hI.1 (hI.2.2.2.2.2.2.2.2.2 _ hI.2.2.1.1 (hI.2.2.1.2 h17)) hI.2.2.2.1.1 hI.2.2.2.1.2).ag fun i h0 h1 => stp4_cl hI h17 (by omega)
theorem stp5_off (hI : Inv0 ρ) (h17 : 0 < ρ 17) {k : Int} (hk : k ≠ 1 ∧ k ≠ 2 ∧ k ≠ 3 ∧ k ≠ 4 ∧ k ≠ 5 ∧ k ≠ 7 ∧ k ≠ 8 ∧ k ≠ 10 ∧ k ≠ 18 ∧ k ≠ 20 ∧ k ≠ 19 ∧ (k < 30 ∨ 54 ≤ k ∧ k < 146 ∨ 2046 ≤ k)) : stp5 ρ k = ρ k := by
  have h8 := stp4_8 hI h17
  unfold stp5
  rw [lotR_off h8.1 h8.2 (by omega)]
  exact stp4_off hI h17 (by omega)
theorem stp5_VC (hI : Inv0 ρ) (h17 : 0 < ρ 17) : VC (clR (stp5 ρ)) := lotR_VC (stp4_VC hI h17) (stp4_8 hI h17).1 (stp4_8 hI h17).2
theorem aS01 (l : Int) : aS ρ l = 0 ∨ aS ρ l = 1 := bi_01
end REF12
