/-! the class: laws and lines -/
def LawsOf (ρ ρ' : Int → Int) (L : List RowT) : Prop := ρ' 16 = L.length ∧ (∀ (i : Nat) (q : RowT), L[i]? = some q → lawC ρ' i = q.2.2.2.2 ∧ q.2.2.1 = [] ∧ q.2.2.2.1 = [] ∧ Law q.2.2.2.2) ∧ (∀ k, 110 ≤ k → k < 146 → ρ' k = -1) ∧ (∀ k, k ≠ 16 → ¬ (110 ≤ k ∧ k < 146) → ¬ (2046 ≤ k ∧ k < 2166) → ¬ (2286 ≤ k ∧ k < 3086) → ρ' k = ρ k)
def LinesOf (ρ ρ' : Int → Int) (L : List RowT) : Prop := ρ' 17 = L.length ∧ (∀ (i : Nat) (q : RowT), L[i]? = some q → tgtOf ρ' i = q.1 ∧ lnP ρ' i = q.2.2.1 ∧ lnV ρ' i = q.2.2.2.1 ∧ lnT ρ' i = q.2.2.2.2 ∧ q.2.1 = 1 ∧ (0 ≤ q.1 ∧ q.1 ≤ 9) ∧ Lin q.1 q.2.2.1 q.2.2.2.1 q.2.2.2.2) ∧ ρ' 7 = 0 ∧ ρ' 12 = -1 ∧ (∀ s, 0 ≤ s → s < 200 → ρ' (246 + 2 * s) = -1) ∧ (∀ k, k ≠ 17 → k ≠ 7 → k ≠ 12 → ¬ (246 ≤ k ∧ k < 646 ∧ k % 2 = 0) → ¬ (2166 ≤ k ∧ k < 2286) → ¬ (3086 ≤ k ∧ k < 3886) → ρ' k = ρ k)
theorem ln_cong {ρ ρ' : Int → Int} (h : ∀ i, 2166 ≤ i → i < 2286 → ρ' i = ρ i) (h2 : ∀ i, 3086 ≤ i → i < 3886 → ρ' i = ρ i) {j : Int} (h0 : 0 ≤ j) (h1 : j < 12) (hw : WfLine ρ j) : tgtOf ρ' j = tgtOf ρ j ∧ lnP ρ' j = lnP ρ j ∧ lnV ρ' j = lnV ρ j ∧ lnT ρ' j = lnT ρ j := by
  obtain ⟨-, hs, -⟩ := hw
  unfold tgtOf lnP lnV lnT
  rw [h (2166 + 10 * j) (by omega) (by omega), h (2166 + 10 * j + 1) (by omega) (by omega), h (2166 + 10 * j + 2) (by omega) (by omega), h (2166 + 10 * j + 3) (by omega) (by omega), h (2166 + 10 * j + 4) (by omega) (by omega), h (2166 + 10 * j + 5) (by omega) (by omega), h (2166 + 10 * j + 6) (by omega) (by omega), h (2166 + 10 * j + 7) (by omega) (by omega)]
  exact ⟨rfl, slc_eq _ _ (fun i h1 h3 => h2 i (by omega) (by omega)), slc_eq _ _ (fun i h1 h3 => h2 i (by omega) (by omega)), slc_eq _ _ (fun i h1 h3 => h2 i (by omega) (by omega))⟩
theorem law_cong {ρ ρ' : Int → Int} (h : ∀ i, 2046 ≤ i → i < 2166 → ρ' i = ρ i) (h2 : ∀ i, 2286 ≤ i → i < 3086 → ρ' i = ρ i) {l : Int} (h0 : 0 ≤ l) (h1 : l < 12) (hw : WfLaw ρ l) : lawC ρ' l = lawC ρ l := by
  obtain ⟨-, -, hs, -⟩ := hw
  unfold lawC
  rw [h (2046 + 10 * l) (by omega) (by omega), h (2046 + 10 * l + 1) (by omega) (by omega), h (2046 + 10 * l + 2) (by omega) (by omega), h (2046 + 10 * l + 3) (by omega) (by omega), h (2046 + 10 * l + 4) (by omega) (by omega)]
  by_cases e : ρ (2046 + 10 * l) = 4
  · rw [if_pos e, if_pos e, slc_eq _ _ (fun i h1 h3 => h2 i (by have := hs e; omega) (by have := hs e; omega))]
  · rw [if_neg e, if_neg e]
theorem TxS_rows {m : MI} {L : List RowT} (hr : Rws m L) (h0 : m 20 20 0 = L.length) (h1 : m 20 20 1 = sml L) (h4 : sml L ≤ 400) : TxS m 20 := by
  refine ⟨by rw [h1]; exact ⟨sml_0 L, h4⟩, fun l l0 l1 => ?_⟩
  rw [h0] at l1
  obtain ⟨q, hq⟩ : ∃ q, L[l.toNat]? = some q := ⟨L[l.toNat]'(by omega), List.getElem?_eq_getElem (by omega)⟩
  have z := hr l.toNat q hq
  rw [Int.toNat_of_nonneg l0] at z
  rw [z.2.2.2.1, h1]
  exact sml_tk hq
theorem slcC_app {f : Int → Int} : ∀ (m k : Nat) (b : Int), slcC f (m + k) b = slcC f m b ++ slcC f k (b + m)
  | 0, k, b => by rw [Nat.zero_add, slcC]; simp
  | m + 1, k, b => by
    rw [show m + 1 + k = (m + k) + 1 by omega, slcC, slcC_app m k (b + 1), slcC, List.cons_append, show b + 1 + (m : Int) = b + ((m + 1 : Nat) : Int) by omega]
theorem RW.lw {m : MI} {L : List RowT} {i : Nat} {q : RowT} (h : RW m (sml (L.take i)) i q) (h4 : sml (L.take i) + rlen q ≤ 400) (hp : q.2.2.1 = []) (hv : q.2.2.2.1 = []) (hl : Law q.2.2.2.2) : LwT m 20 i q.2.2.2.2 ∧ Bm (m 20 27 i) (needL q.2.2.2.2) := by
  obtain ⟨a1, a2, a3, a4, a5, a6, a7⟩ := h
  have h0 := sml_0 (L.take i)
  have hr := rlen_0 q
  rw [hp, hv] at a6 a7
  refine ⟨⟨by omega, by omega, by omega, ?_, hl⟩, a6⟩
  rw [a1, a4, show sml (L.take i) + rlen q - sml (L.take i) = rlen q by omega]
  exact a7
theorem RW.ln {m : MI} {B R : Int} {q : RowT} (h : RW m B R q) (h0 : 0 ≤ B) (h4 : B + rlen q ≤ 400) (he : q.2.1 = 1) (ht : 0 ≤ q.1 ∧ q.1 ≤ 9) (hl : Lin q.1 q.2.2.1 q.2.2.2.1 q.2.2.2.2) : LnT m 20 R q.1 q.2.2.1 q.2.2.2.1 q.2.2.2.2 := by
  obtain ⟨a1, a2, a3, a4, a5, a6, a7⟩ := h
  have a3 := a3 he
  have hrl : rlen q = (q.2.2.1.length : Int) + q.2.2.2.1.length + q.2.2.2.2.length := rfl
  have e : (rlen q).toNat = q.2.2.1.length + (q.2.2.2.1.length + q.2.2.2.2.length) := by omega
  rw [e, slcC_app, slcC_app, List.append_assoc] at a7
  have l1 := slcC_len (f := m 20 21) q.2.2.1.length B
  have l2 := slcC_len (f := m 20 21) q.2.2.2.1.length (B + q.2.2.1.length)
  obtain ⟨b1, b2⟩ := List.append_inj a7 l1
  obtain ⟨b3, b4⟩ := List.append_inj b2 l2
  refine ⟨a5, ht, ⟨by omega, by omega, by omega, by omega, by omega⟩, ?_, ?_, ?_, hl⟩
  · rw [a1, a2, show (B + (q.2.2.1.length : Int) - B).toNat = q.2.2.1.length by omega]; exact b1
  · rw [a2, a3, show (B + (q.2.2.1.length : Int) + q.2.2.2.1.length - (B + q.2.2.1.length)).toNat = q.2.2.2.1.length by omega]; exact b3
  · rw [a3, a4, show (B + rlen q - (B + (q.2.2.1.length : Int) + q.2.2.2.1.length)).toNat = q.2.2.2.2.length by omega]; exact b4
theorem Rep_laws {mi m mi' : MI} {g : Nat} {ρ ρ' : Int → Int} {L : List RowT} {B : Int} (hR : Rep (-1) mi g ρ) (hI : Inv B ρ) (hl : LawsOf ρ ρ' L) (hT : TxE mi' m g 20) (hr : Rws m L) (h0 : m 20 20 0 = L.length) (h1 : m 20 20 1 = sml L) (h12 : L.length ≤ 12) (h4 : sml L ≤ 400) (hm : ∀ a b, rlS g a b = true → ¬ (a = g ∧ ((20 ≤ b ∧ b ≤ 27) ∨ (41 ≤ b ∧ b ≤ 43))) → mi' a b = mi a b) (h41 : ∀ i, 0 ≤ i → i < 12 → mi' g 41 i = -1 ∧ mi' g 42 i = -1 ∧ mi' g 43 i = -1) : Rep (-1) mi' g ρ' ∧ TxS mi' g := by
  obtain ⟨rW, rL, rN, rJ, rS, rH, rC⟩ := hR
  obtain ⟨l1, l2, l3, l4⟩ := hl
  have hS := TxS_rows hr h0 h1 h4
  have c12 : m 20 20 0 ≤ 12 := by rw [h0]; omega
  have hwf := hI.wf
  have h17 := hI.1.2.2.2.2.2.2.1
  have q : ∀ b, rlS g g b = true → ¬ ((20 ≤ b ∧ b ≤ 27) ∨ (41 ≤ b ∧ b ≤ 43)) → mi' g b = mi g b := fun b z1 z2 => hm g b z1 (fun z => z2 z.2)
  have q10 : ∀ b, 20 ≤ b → b ≤ 27 → mi' (g + 10) b = mi (g + 10) b := fun b z1 z2 => hm (g + 10) b (by simp [rlS, z1, z2]) (fun z => by omega)
  refine ⟨⟨?_, ?_, ?_, ?_, ?_, ?_, ?_⟩, hT.S hS c12⟩
  · exact (rW.row (fun k hk => l4 k (by omega) (by omega) (by omega) (by omega))).mv (q 16 (by simp [rlS]) (by omega)) (by rw [q 15 (by simp [rlS]) (by omega)])
  · refine ⟨by rw [hT.1.1, h0, l1], fun l a b => ?_⟩
    rw [l1] at b
    obtain ⟨x, hx⟩ : ∃ x, L[l.toNat]? = some x := ⟨L[l.toNat]'(by omega), List.getElem?_eq_getElem (by omega)⟩
    obtain ⟨p1, p2, p3, p4⟩ := l2 _ _ hx
    have z := (hr _ _ hx).lw (by have := sml_tk hx; omega) p2 p3 p4
    rw [Int.toNat_of_nonneg a] at p1 z
    rw [p1]
    exact ⟨hT.lw hS c12 a (by omega) z.1, by rw [(hT.2.2 l a (by omega)).2.2.2.2.2]; exact z.2⟩
  · have : RepN mi g ρ' := by
      have e17 : ρ' 17 = ρ 17 := l4 17 (by omega) (by omega) (by omega) (by omega)
      refine ⟨by rw [e17]; exact rN.1, fun j a b => ?_⟩
      rw [e17] at b
      obtain ⟨z1, z2, z3, z4⟩ := ln_cong (ρ := ρ) (ρ' := ρ') (fun i i0 i1 => l4 i (by omega) (by omega) (by omega) (by omega)) (fun i i0 i1 => l4 i (by omega) (by omega) (by omega) (by omega)) a (by omega) (hwf.2 j a b)
      rw [z1, z2, z3, z4]
      exact rN.2 j a b
    exact this.mv q10
  · exact (rJ.row hI.1.2.2.2.1.2 (fun k hk => l4 k (by omega) (by omega) (by omega) (by omega))).mv (fun b z1 z2 => q b (by simp [rlS]; omega) (by omega))
  · exact (rS.row (fun k z1 z2 => l4 k (by omega) (by omega) (by omega) (by omega))).mv (q 37 (by simp [rlS]) (by omega)) (q 38 (by simp [rlS]) (by omega))
  · have e40 := q 40 (by simp [rlS]) (by omega)
    have e11 := l4 11 (by omega) (by omega) (by omega) (by omega)
    have e12 := l4 12 (by omega) (by omega) (by omega) (by omega)
    have e13 := l4 13 (by omega) (by omega) (by omega) (by omega)
    refine ⟨by rw [e40, e11]; exact rH.1, by rw [e40, e12]; exact rH.2.1, by rw [e40, e12, e13]; exact rH.2.2.1, by rw [e40, e12]; exact rH.2.2.2.1, fun l a b => ?_⟩
    rw [l3 _ (by omega) (by omega), l3 _ (by omega) (by omega), l3 _ (by omega) (by omega)]
    exact h41 l a b
  · exact (rC.row (fun k hk => l4 k (by omega) (by omega) (by omega) (by omega))).mv (fun b z1 z2 => q b (by simp [rlS]; omega) (by omega))
theorem Rep_lines {mi m mi' : MI} {g : Nat} {ρ ρ' : Int → Int} {L : List RowT} {B : Int} (hR : Rep (-1) mi g ρ) (hI : Inv B ρ) (hl : LinesOf ρ ρ' L) (hT : TxE mi' m (g + 10) 20) (hr : Rws m L) (h0 : m 20 20 0 = L.length) (h1 : m 20 20 1 = sml L) (h12 : L.length ≤ 12) (h4 : sml L ≤ 400) (hm : ∀ a b, rlS g a b = true → ¬ (a = g + 10 ∧ (20 ≤ b ∧ b ≤ 27)) → ¬ (a = g ∧ (b = 6 ∨ b = 37 ∨ b = 40)) → mi' a b = mi a b) (h6 : mi' g 6 = ud (mi g 6) 7 0) (h37 : ∀ i, 0 ≤ i → i < 200 → mi' g 37 i = -1) (h40 : mi' g 40 0 = mi g 40 0 ∧ mi' g 40 1 = -1 ∧ mi' g 40 2 = -1) : Rep (-1) mi' g ρ' ∧ TxS mi' (g + 10) := by
  obtain ⟨rW, rL, rN, rJ, rS, rH, rC⟩ := hR
  obtain ⟨l1, l2, l7, l12, l3, l4⟩ := hl
  have hS := TxS_rows hr h0 h1 h4
  have c12 : m 20 20 0 ≤ 12 := by rw [h0]; omega
  have hwf := hI.wf
  have h16 := hI.1.2.2.2.2.2.1
  have q : ∀ b, rlS g g b = true → ¬ (b = 6 ∨ b = 37 ∨ b = 40) → mi' g b = mi g b := fun b z1 z2 => hm g b z1 (fun z => by omega) (fun z => z2 z.2)
  refine ⟨⟨?_, ?_, ?_, ?_, ?_, ?_, ?_⟩, hT.S hS c12⟩
  · exact (rW.row (fun k hk => l4 k (by omega) (by omega) (by omega) (by omega) (by omega) (by omega))).mv (q 16 (by simp [rlS]) (by omega)) (by rw [q 15 (by simp [rlS]) (by omega)])
  · have : RepL mi g ρ' := by
      have e16 : ρ' 16 = ρ 16 := l4 16 (by omega) (by omega) (by omega) (by omega) (by omega) (by omega)
      refine ⟨by rw [e16]; exact rL.1, fun l a b => ?_⟩
      rw [e16] at b
      rw [law_cong (ρ := ρ) (ρ' := ρ') (fun i i0 i1 => l4 i (by omega) (by omega) (by omega) (by omega) (by omega) (by omega)) (fun i i0 i1 => l4 i (by omega) (by omega) (by omega) (by omega) (by omega) (by omega)) a (by omega) (hwf.1 l a b)]
      exact rL.2 l a b
    exact this.mv (fun b z1 z2 => q b (by simp [rlS]; omega) (by omega))
  · refine ⟨by rw [hT.1.1, h0, l1], fun l a b => ?_⟩
    rw [l1] at b
    obtain ⟨x, hx⟩ : ∃ x, L[l.toNat]? = some x := ⟨L[l.toNat]'(by omega), List.getElem?_eq_getElem (by omega)⟩
    obtain ⟨p1, p2, p3, p4, p5, p6, p7⟩ := l2 _ _ hx
    have z := (hr _ _ hx).ln (sml_0 _) (by have := sml_tk hx; omega) p5 p6 p7
    rw [Int.toNat_of_nonneg a] at p1 p2 p3 p4 z
    rw [p1, p2, p3, p4]
    exact hT.ln hS c12 a (by omega) z
  · exact (rJ.row hI.1.2.2.2.1.2 (fun k hk => l4 k (by omega) (by omega) (by omega) (by omega) (by omega) (by omega))).mv (fun b z1 z2 => q b (by simp [rlS]; omega) (by omega))
  · intro s a b
    rw [l3 s a b, l4 _ (by omega) (by omega) (by omega) (by omega) (by omega) (by omega), q 38 (by simp [rlS]) (by omega)]
    exact ⟨h37 s a b, (rS s a b).2⟩
  · have e11 := l4 11 (by omega) (by omega) (by omega) (by omega) (by omega) (by omega)
    refine ⟨by rw [h40.1, e11]; exact rH.1, by rw [h40.2.1, l12], fun z => absurd l12 z, fun _ => h40.2.2, fun l a b => ?_⟩
    rw [q 41 (by simp [rlS]) (by omega), q 42 (by simp [rlS]) (by omega), q 43 (by simp [rlS]) (by omega), l4 _ (by omega) (by omega) (by omega) (by omega) (by omega) (by omega), l4 _ (by omega) (by omega) (by omega) (by omega) (by omega) (by omega), l4 _ (by omega) (by omega) (by omega) (by omega) (by omega) (by omega)]
    exact rH.2.2.2.2 l a b
  · obtain ⟨a1, a2, a3, a4, a5, a6, a7, a8, a9⟩ := rC
    have e : ∀ k, k ≠ 17 → k ≠ 7 → k ≠ 12 → ¬ (246 ≤ k ∧ k < 646 ∧ k % 2 = 0) → ¬ (2166 ≤ k ∧ k < 2286) → ¬ (3086 ≤ k ∧ k < 3886) → ρ' k = ρ k := l4
    refine ⟨fun k k0 k1 k2 => ?_, fun i i0 i1 => ?_, fun i i0 i1 => ?_, fun i i0 i1 => ?_, fun i i0 i1 => ?_, ?_, ?_, ?_, ?_⟩
    · rw [h6]
      by_cases z : k = 7
      · rw [z, ud_at, l7]
      · rw [ud_ne z, e k (by omega) z (by omega) (by omega) (by omega) (by omega)]; exact a1 k k0 k1 k2
    · rw [q 7 (by simp [rlS]) (by omega), e _ (by omega) (by omega) (by omega) (by omega) (by omega) (by omega)]; exact a2 i i0 i1
    · rw [q 8 (by simp [rlS]) (by omega), e _ (by omega) (by omega) (by omega) (by omega) (by omega) (by omega)]; exact a3 i i0 i1
    · rw [q 9 (by simp [rlS]) (by omega), e _ (by omega) (by omega) (by omega) (by omega) (by omega) (by omega)]; exact a4 i i0 i1
    · rw [q 10 (by simp [rlS]) (by omega), e _ (by omega) (by omega) (by omega) (by omega) (by omega) (by omega)]; exact a5 i i0 i1
    · rw [q 5 (by simp [rlS]) (by omega), e _ (by omega) (by omega) (by omega) (by omega) (by omega) (by omega)]; exact a6
    · rw [q 5 (by simp [rlS]) (by omega), e _ (by omega) (by omega) (by omega) (by omega) (by omega) (by omega)]; exact a7
    · rw [q 5 (by simp [rlS]) (by omega), e _ (by omega) (by omega) (by omega) (by omega) (by omega) (by omega)]; exact a8
    · rw [q 5 (by simp [rlS]) (by omega), e _ (by omega) (by omega) (by omega) (by omega) (by omega) (by omega)]; exact a9
