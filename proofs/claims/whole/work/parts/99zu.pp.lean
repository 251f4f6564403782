/-! what the paper's runs hang on -/
def ppEq (ρ ρ' : Int → Int) : Prop := ∀ k, (k = 7 ∨ k = 16 ∨ k = 17 ∨ k = 19 ∨ (30 ≤ k ∧ k < 54) ∨ 2046 ≤ k) → ρ' k = ρ k
theorem ppEq.hi {ρ ρ' : Int → Int} (h : ppEq ρ ρ') : hiEq ρ ρ' := fun i hi => h i (by omega)
theorem ppEq.ag {ρ ρ' : Int → Int} (h : ppEq ρ ρ') : ag (clR ρ) (clR ρ') := fun i a b => h _ (by omega)
theorem ppEq.udd {ρ ρ' : Int → Int} (h : ppEq ρ ρ') {k v : Int} : ppEq (ud ρ k v) (ud ρ' k v) := fun i hi => by
  unfold ud
  rw [h i hi]
theorem lnO_pp {ρ ρ' : Int → Int} (h : ppEq ρ ρ') (hV : VC (clR ρ)) {j : Int} (h0 : 0 ≤ j) (hw : WfLine ρ j) : lnO ρ' j = lnO ρ j := by
  have hl := ln_hi h.hi h0 hw
  unfold lnO
  rw [hl.1, hl.2.1, hl.2.2, tgtOf_hi h.hi h0]
  exact lnA_ag hV h.ag hw.2.2
theorem lnR_pp {ρ ρ' : Int → Int} (h : ppEq ρ ρ') {j : Int} (e : lnO ρ' j = lnO ρ j) : ppEq (lnR ρ j 0 1) (lnR ρ' j 0 1) := by
  have hm : ∀ r, mkd ρ' r = mkd ρ r := fun r => by unfold mkd; rw [h 19 (by omega)]
  unfold lnR
  rw [e]
  by_cases e2 : (lnO ρ j).1 = 2
  · rw [if_pos e2, if_pos e2, if_neg (by decide), if_neg (by decide), hm]
    have h2 := h.udd (k := 30 + (lnO ρ j).2.1) (v := (lnO ρ j).2.2.1)
    unfold mkR
    rw [h2 19 (by omega)]
    exact h2.udd
  · rw [if_neg e2, if_neg e2]; exact h
theorem goF_pp {σ σ' : Int → Int} (e : ppEq σ σ') (hV : VC (clR σ)) (h7 : 0 ≤ σ 7 ∧ σ 7 < σ 17) (h8 : 0 ≤ σ 8 ∧ σ 8 ≤ 200) (hl : ∀ j, 0 ≤ j → j < σ 17 → WfLine σ j) : ∀ k : Nat, ppEq (goF σ k).1 (goF σ' k).1 ∧ (goF σ' k).2 = (goF σ k).2
  | 0 => ⟨e, by show (σ' 7, [], (0 : Int)) = (σ 7, [], (0 : Int)); rw [e 7 (by omega)]⟩
  | k + 1 => by
    obtain ⟨a, b⟩ := goF_pp e hV h7 h8 hl k
    obtain ⟨v1, v2, v3, -, -⟩ := goF_Inv hV h7 h8 hl k
    rw [goF, goF, e 17 (by omega)]
    generalize goF σ k = g at *
    generalize goF σ' k = g' at *
    obtain ⟨g1, g2⟩ := g
    obtain ⟨g1', g2'⟩ := g'
    simp only at a b v1 v2 v3
    subst b
    have hw : WfLine g1 g2'.1 := (hl _ v3.1 v3.2).hi (fun i hi => v2 i (by omega) (by omega)) v3.1
    have ho := lnO_pp a v1 v3.1 hw
    have hm : ∀ r, mkd g1' r = mkd g1 r := fun r => by unfold mkd; rw [a 19 (by omega)]
    unfold go1
    simp only [ho, hm]
    exact ⟨lnR_pp a ho, trivial⟩
theorem allH_cg {H H' : Int → Int} : ∀ N : Nat, (∀ l : Int, 0 ≤ l → l < N → H' l = H l) → allH H' N = allH H N
  | 0, _ => rfl
  | N + 1, h => by rw [allH, allH, allH_cg N (fun l a b => h l a (by omega)), h N (by omega) (by omega)]
/-- what is needed of a row for the paper -/
def PpW (ρ : Int → Int) : Prop := VC (clR ρ) ∧ (0 ≤ ρ 7 ∧ ρ 7 < ρ 17) ∧ (0 ≤ ρ 8 ∧ ρ 8 ≤ 200) ∧ (∀ j, 0 ≤ j → j < ρ 17 → WfLine ρ j) ∧ ∀ l, 0 ≤ l → l < ρ 16 → WfLaw ρ l
theorem camR_pp {ρ ρ' : Int → Int} (e : ppEq ρ ρ') (hw : PpW ρ) {n : Nat} {c v : Int} (hc0 : 0 ≤ c) (hc1 : c < 24) (hb : biC c v = 1) : camR ρ' n c v = camR ρ n c v := by
  obtain ⟨hV, h7, h8, hl, hk⟩ := hw
  have hV2 : VC (clR (ud ρ (30 + c) v)) := hV.wr (fun i a b => by
    show ud ρ (30 + c) v (30 + i) = ρ (30 + i) ∨ biC i (ud ρ (30 + c) v (30 + i)) = 1
    by_cases z : i = c
    · subst z; right; rw [ud_at]; exact hb
    · left; exact ud_ne (by omega))
  have g1 := goF_pp e hV h7 h8 hl n
  have e2 := e.udd (k := 30 + c) (v := v)
  have h7' : 0 ≤ ud ρ (30 + c) v 7 ∧ ud ρ (30 + c) v 7 < ud ρ (30 + c) v 17 := by rw [ud_ne (by omega), ud_ne (by omega)]; exact h7
  have h8' : 0 ≤ ud ρ (30 + c) v 8 ∧ ud ρ (30 + c) v 8 ≤ 200 := by rw [ud_ne (by omega)]; exact h8
  have hl' : ∀ j, 0 ≤ j → j < ud ρ (30 + c) v 17 → WfLine (ud ρ (30 + c) v) j := fun j a b => by
    rw [ud_ne (by omega)] at b
    exact (hl j a b).hi (fun i hi => ud_ne (by omega)) a
  have g2 := goF_pp e2 hV2 h7' h8' hl' n
  have v2 := goF_Inv hV2 h7' h8' hl' n
  unfold camR
  rw [g1.2, g2.2, e 16 (by omega), allH_cg (H := fun l => valA (clR (goF (ud ρ (30 + c) v) n).1) (lawC ρ l)) _ (fun l a b => ?_)]
  have hW := hk l a (by omega)
  rw [lawC_hi e.hi a (fun z => (hW.2.2.1 z).1)]
  exact valA_ag v2.1 g2.1.ag hW.2.2.2
theorem cntV_pp {ρ ρ' : Int → Int} (e : ppEq ρ ρ') (hw : PpW ρ) {n : Nat} {w c : Int} (hc0 : 0 ≤ c) (hc1 : c < 24) : ∀ i : Nat, cntV ρ' n w c i = cntV ρ n w c i
  | 0 => rfl
  | i + 1 => by
    rw [cntV, cntV, cntV_pp e hw hc0 hc1 i, e (30 + c) (by omega)]
    by_cases hb : biC c ((i : Int) - 1) = 1
    · rw [camR_pp e hw hc0 hc1 hb]
    · rw [if_neg (fun z => hb z.1.1), if_neg (fun z => hb z.1.1)]
theorem cntC_pp {ρ ρ' : Int → Int} (e : ppEq ρ ρ') (hw : PpW ρ) {n : Nat} {w : Int} : ∀ c : Nat, c ≤ 24 → cntC ρ' n w c = cntC ρ n w c
  | 0, _ => rfl
  | c + 1, h => by rw [cntC, cntC, cntC_pp e hw c (by omega), cntV_pp e hw (by omega) (by omega)]
theorem PpK.eq {ρ ρ' : Int → Int} (e : ppEq ρ ρ') (hw : ρ 17 ≠ 0 → PpW ρ) {mi mi' : MI} (h : PpK mi ρ) (h0 : mi 0 70 10 ≠ 0 → ρ 17 ≠ 0) (h10 : mi' 0 70 10 = mi 0 70 10) (h73 : mi' 0 73 = mi 0 73) : PpK mi' ρ' := by
  unfold PpK at *
  rw [h10, h73]
  rcases h with z | ⟨a, b⟩
  · exact Or.inl z
  · refine Or.inr ⟨a, fun w c d => ?_⟩
    rw [cntC_pp e (hw (h0 (by omega))) 24 (Nat.le_refl _)]
    exact b w c d
