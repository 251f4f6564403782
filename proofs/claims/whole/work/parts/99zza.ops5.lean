/-! the law: laws, lines -/
theorem cmpG_ne {F : Int → MS} {tk nx : Int → Int} : ∀ (n : Nat) (f : Int) {L : List RowT}, cmpG F tk nx n f = .inr L → 1 ≤ L.length
  | 0, f, L, h => by cases h
  | k + 1, f, L, h => by
    rw [cmpG] at h
    split at h
    · cases h
    · split at h
      · split at h
        · cases h
        · injection h with h
          rw [← h]
          exact Nat.succ_le_succ (Nat.zero_le _)
      · split at h
        · injection h with h
          rw [← h]
          exact Nat.le_refl _
        · cases h
theorem Inv_laws {B : Int} {ρ ρ' : Int → Int} {L : List RowT} (hI : Inv B ρ) (h : LawsOf ρ ρ' L) (h12 : L.length ≤ 12) (hw : ∀ l : Int, 0 ≤ l → l < L.length → WfLaw ρ' l) : Inv B ρ' := by
  obtain ⟨e16, -, -, ek⟩ := h
  have q : ∀ k, k ≠ 16 → (k < 110 ∨ 146 ≤ k) → (k < 2046 ∨ (2166 ≤ k ∧ k < 2286) ∨ 3086 ≤ k) → ρ' k = ρ k := fun k a b c => ek k a (by omega) (by omega) (by omega)
  have h1 := hI.1
  have h2 := hI.2.2.1
  have h17 := hI.1.2.2.2.2.2.2.1
  have e7 := q 7 (by omega) (by omega) (by omega)
  have e8 := q 8 (by omega) (by omega) (by omega)
  have e17 := q 17 (by omega) (by omega) (by omega)
  refine hI.gen (h1.1.ag (fun i a b => q _ (by omega) (by omega) (by omega))) (hI.2.1.cong h1.2.2.2.1.2 (fun k hk => q k (by unfold rlW at hk; omega) (by unfold rlW at hk; omega) (by unfold rlW at hk; omega))) (by rw [e7, e17]; exact h1.2.2.1) (by rw [e8]; exact h1.2.2.2.1) (by rw [q 9 (by omega) (by omega) (by omega)]; exact h2.2.2.2.2.2.1) (by rw [q 10 (by omega) (by omega) (by omega)]; exact h1.2.2.2.2.1) (by rw [q 11 (by omega) (by omega) (by omega)]; exact h2.2.2.1) (by rw [q 12 (by omega) (by omega) (by omega)]; exact h2.2.2.2.2.2.2.1) (by rw [q 13 (by omega) (by omega) (by omega)]; exact h1.2.2.2.2.2.2.2.1.2.2) (by rw [q 14 (by omega) (by omega) (by omega)]; exact h2.2.2.2.2.1) (by rw [q 15 (by omega) (by omega) (by omega)]; exact h2.2.2.2.1) ⟨by rw [e16]; omega, fun l a b => hw l a (by rw [← e16]; exact b)⟩ ⟨by rw [e17]; exact h17, fun j a b => ?_⟩ (by rw [q 19 (by omega) (by omega) (by omega)]; exact h2.2.2.2.2.2.2.2.2.2) (fun i a b => by rw [q _ (by omega) (by omega) (by omega)]; exact h2.2.1 i a b) (fun k hk => q k (by omega) (by omega) (by omega))
  rw [e17] at b
  exact (hI.wf.2 j a b).ln ⟨fun i u v => q i (by omega) (by omega) (by omega), fun i u v => q i (by omega) (by omega) (by omega)⟩ a (by omega)
theorem Inv_lines {B : Int} {ρ ρ' : Int → Int} {L : List RowT} (hI : Inv B ρ) (h : LinesOf ρ ρ' L) (h12 : L.length ≤ 12) (h01 : 1 ≤ L.length) (hw : ∀ l : Int, 0 ≤ l → l < L.length → WfLine ρ' l) : Inv B ρ' := by
  obtain ⟨e17, -, e7, e12, es, ek⟩ := h
  have q : ∀ k, k ≠ 17 → k ≠ 7 → k ≠ 12 → (k < 246 ∨ (646 ≤ k ∧ k < 2166) ∨ (2286 ≤ k ∧ k < 3086)) → ρ' k = ρ k := fun k a b c z => ek k a b c (by omega) (by omega) (by omega)
  have h1 := hI.1
  have h2 := hI.2.2.1
  have h16 := hI.1.2.2.2.2.2.1
  have e8 := q 8 (by omega) (by omega) (by omega) (by omega)
  have e0 := q 0 (by omega) (by omega) (by omega) (by omega)
  have e20 := q 20 (by omega) (by omega) (by omega) (by omega)
  have e16 := q 16 (by omega) (by omega) (by omega) (by omega)
  have h8 := h1.2.2.2.1
  have hW : InvW ρ' := by
    obtain ⟨w1, w2, w3, w4, w5⟩ := hI.2.1
    have ew : ∀ w f, 0 ≤ w → w < ρ 8 → 0 ≤ f → f < 7 → ρ' (646 + 7 * w + f) = ρ (646 + 7 * w + f) := fun w f a b c d => q _ (by omega) (by omega) (by omega) (by omega)
    have ew0 : ∀ w, 0 ≤ w → w < ρ 8 → ρ' (646 + 7 * w) = ρ (646 + 7 * w) := fun w a b => q _ (by omega) (by omega) (by omega) (by omega)
    refine ⟨fun w a b => ?_, fun w a b => ?_, fun s a b => Or.inr (Or.inl (es s a b)), fun z => ?_, by rw [e20, e0]; exact w5⟩
    · rw [e8] at b
      rw [ew w 2 a b (by omega) (by omega), ew w 3 a b (by omega) (by omega), ew w 4 a b (by omega) (by omega), ew0 w a b, e0, e20]
      exact w1 w a b
    · rw [e8] at b
      rw [ew0 w a (by omega), ew0 (w + 1) (by omega) b]
      exact w2 w a b
    · rw [e17] at z; omega
  refine hI.gen (h1.1.ag (fun i a b => q _ (by omega) (by omega) (by omega) (by omega))) hW ⟨by rw [e7]; exact Int.le_refl _, fun _ => by rw [e7, e17]; omega⟩ (by rw [e8]; exact h8) (by rw [q 9 (by omega) (by omega) (by omega) (by omega)]; exact h2.2.2.2.2.2.1) (by rw [q 10 (by omega) (by omega) (by omega) (by omega)]; exact h1.2.2.2.2.1) (by rw [q 11 (by omega) (by omega) (by omega) (by omega)]; exact h2.2.2.1) (Or.inl e12) (by rw [q 13 (by omega) (by omega) (by omega) (by omega)]; exact h1.2.2.2.2.2.2.2.1.2.2) (by rw [q 14 (by omega) (by omega) (by omega) (by omega)]; exact h2.2.2.2.2.1) (by rw [q 15 (by omega) (by omega) (by omega) (by omega)]; exact h2.2.2.2.1) ⟨by rw [e16]; exact h16, fun l a b => ?_⟩ ⟨by rw [e17]; omega, fun j a b => hw j a (by rw [← e17]; exact b)⟩ (by rw [q 19 (by omega) (by omega) (by omega) (by omega)]; exact h2.2.2.2.2.2.2.2.2.2) (fun i a b => by rw [q _ (by omega) (by omega) (by omega) (by omega)]; exact h2.2.1 i a b) (fun k hk => q k (by omega) (by omega) (by omega) (by omega))
  rw [e16] at b
  exact (hI.wf.1 l a b).lw ⟨fun i u v => q i (by omega) (by omega) (by omega) (by omega), fun i u v => q i (by omega) (by omega) (by omega) (by omega)⟩ a (by omega)
def pLs (a b : Nat) (k : Int) : Bool := pKc a b k || (a == 0 && b == 0 && (k == 1 || k == 2 || k == 3))
def pCa (g a b : Nat) (k : Int) : Bool := pCL g a b k && !(a == g + 10)
def pCb (g a b : Nat) (k : Int) : Bool := pCL g a b k && !(a == g && (decide (20 ≤ b) && decide (b ≤ 27)))
def pRa (j : Nat) (k : Int) : Bool := pRl j k || j == 81 || (j == 80 && k == 33)
def pRb (j : Nat) (k : Int) : Bool := pRl j k || j == 81
theorem hi_pRl : ∀ j k, pRl j k = true → 80 ≤ j := fun j k h => by simp [pRl] at h; omega
theorem hi_pRa : ∀ j k, pRa j k = true → 80 ≤ j := fun j k h => by simp [pRa, pRl] at h; omega
theorem hi_pRb : ∀ j k, pRb j k = true → 80 ≤ j := fun j k h => by simp [pRb, pRl] at h; omega
theorem sc_pRl : ∀ k, pRl 110 k = false ∧ pRl 111 k = false := fun k => by simp [pRl]
theorem sc_pRa : ∀ k, pRa 110 k = false ∧ pRa 111 k = false := fun k => by simp [pRa, pRl]
theorem sc_pRb : ∀ k, pRb 110 k = false ∧ pRb 111 k = false := fun k => by simp [pRb, pRl]
section OPE
variable {G g n : Nat} {s i0 i1 : Option Nat} {ρ ρ' t t' : Int → Int} {N N' fl fl' st st' B B' : Int} {σ0 σ1 : Option (Int → Int)} {mi m1 m2 : MI} {mr r1 : MR}
theorem al_pLs : ∀ a b k, pLs a b k = true → pAll g a b = true := fun a b k h => by simp [pLs, pKc] at h; simp [pAll, rlS]; omega
theorem al_pCa : ∀ a b k, pCa g a b k = true → pAll g a b = true := fun a b k h => by
  have h1 : pCL g a b k = true := by
    unfold pCa at h
    cases e : pCL g a b k with
    | true => rfl
    | false => rw [e] at h; cases h
  simp [pCL, pKc] at h1
  simp [pAll]
  rcases h1 with ((h1 | h1) | h1) | h1
  · rcases h1 with h1 | h1
    · omega
    · omega
  · exact Or.inl (Or.inl (Or.inl (Or.inl h1)))
  · omega
  · omega
theorem al_pCb : ∀ a b k, pCb g a b k = true → pAll g a b = true := fun a b k h => by
  have h1 : pCL g a b k = true := by
    unfold pCb at h
    cases e : pCL g a b k with
    | true => rfl
    | false => rw [e] at h; cases h
  simp [pCL, pKc] at h1
  simp [pAll]
  rcases h1 with ((h1 | h1) | h1) | h1
  · rcases h1 with h1 | h1
    · omega
    · omega
  · exact Or.inl (Or.inl (Or.inl (Or.inl h1)))
  · omega
  · omega
theorem HC.bad {p : Int} (hC : HC G g s i0 i1 ρ t N fl st σ0 σ1 mi n mr) (g1 : Cg pLs mi m1) (eN : m1 0 0 1 = 0) (e2 : m1 0 0 2 = p) (e3 : m1 0 0 3 = -6) : HC G g s i0 i1 ρ t 0 p (-6) σ0 σ1 m1 n mr := by
  have hg4 := hC.g4
  have hgl := hC.lt
  have e : ∀ a b, rlS g a b = true → m1 a b = mi a b := fun a b z => g1.row (fun k => by
    simp [rlS] at z
    simp [pLs, pKc]
    omega)
  have e5 : ∀ a b, 50 ≤ b → m1 a b = mi a b := fun a b z => g1.row (fun k => by
    simp [pLs, pKc]
    omega)
  refine hC.mv g1 al_pLs Cr.rf (hC.rep.mv e) (hC.2.1.2.1.mv (fun b u v => e g b (by simp [rlS]; omega))) (hC.2.1.2.2.mv (fun b u v => e (g + 10) b (by simp [rlS]; omega))) eN e2 e3 (hC.mk.mvr (fun a b u v => e5 a b (by omega)) id) ?_
  unfold PpK
  rw [e5 0 70 (by omega), e5 0 73 (by omega)]
  exact hC.pp2
theorem HR.bad {p : Int} (h : HR ρ t N fl st σ0 σ1 m1) (hg : Ch pRl m1 m2) (e11 : m2 0 80 11 = 0) (e16 : m2 0 80 16 = p) (e1 : m2 0 80 1 = -6) (e25 : -100 ≤ m2 0 80 25 ∧ m2 0 80 25 ≤ 100) : HR ρ t 0 p (-6) σ0 σ1 m2 := by
  refine h.gen hg (fun k => by simp [pRl]) (by rw [hg.row (j := 81) (fun k => by simp [pRl])]; exact h.1) e11 e16 e1 e25 (fun m x y z => ?_)
  rw [hg.at (by simp [pRl])] at z
  have := h.2.2.2.2.2 m x y z
  unfold LkY at *
  rw [hg.at (by simp [pRl]), hg.at (by simp [pRl]), hg.at (by simp [pRl]), hg.row (j := 93) (fun k => by simp [pRl])]
  exact this
theorem b_laws (hS : LSt B mi n mr) (hB : B ≤ B') : Both 20 mt_X11_laws [vR (some (0, 0))] mt_X12_laws [vR (some (0, 80))] B' mi n mr := by
  obtain ⟨G, g, s, i0, i1, ρ, t, N, fl, st, σ0, σ1, hC, hR, hP⟩ := hS
  intro Q1 hQ
  have hN := hC.2.2.1.2.1
  have ht := hC.2.2.1.1
  have hT := hP.2.1
  have hg4 := hC.g4
  have hgl := hC.lt
  obtain ⟨F, hF⟩ : ∃ F, F = finR (tkF t N) (nuF t N) (nxF t N) 0 := ⟨_, rfl⟩
  have hc : cmpT t N 0 = cmpG F (tkF t N) (nxF t N) 12 (skp t N 0) := by unfold cmpT; rw [hF]
  refine u_claws hC.lay hC.now hgl hg4 hC.rep hP.1 (by rw [hN]; exact hT.1.1) (by rw [hN]; exact hT.1.2) (by rw [hN, ht]; exact hT.2) (fun p hp p0 m1 g1 eN e2 e3 => ?_) (fun L hL l12 s400 m1 g1 eN e2 e3 e60 e70 hRL => ?_)
  · have g1 : Cg pLs mi m1 := g1
    rw [ht, hN, hc] at hp
    refine hQ _ m1 n mr (Scr.all (g := g) g1 al_pLs) (fun Q2 hf => ?_)
    have hC1 := hC.bad g1 eN e2 e3
    have hR1 := hR.all (g := g) g1 al_pLs
    have sc1 := Scr.all (g := g) g1 al_pLs
    have h11 := hR1.2.2.1.1
    have h86 := hR1.2.1
    refine t_laws (F := F) hC1.lay (by rw [h86, h11]; exact hT) hR1.2.2.2.2.1 (by rw [h86, h11]; exact hF) (fun p' hp' m2 g2 e11 e16 e1 e25 => ?_) (fun L hL => ?_)
    · rw [h86, h11, hp] at hp'
      injection hp' with hp'
      subst hp'
      exact hf m2 n mr (sc1.tr (Scr.ch g2 sc_pRl)) (LSt.mk (hC1.ch g2 hi_pRl) (hR1.bad g2 e11 e16 e1 e25) ⟨hP.1.mono hB, hT.nil, fun τ z => (hP.2.2.1 τ z).mono hB, fun τ z => (hP.2.2.2 τ z).mono hB⟩)
    · rw [h86, h11, hp] at hL
      cases hL
  · have g1 : Cg (pCa g) mi m1 := g1
    rw [ht, hN, hc] at hL
    refine hQ _ m1 n mr (Scr.all (g := g) g1 al_pCa) (fun Q2 hf => ?_)
    have hC1 : ∀ ρ', LawsOf ρ ρ' L → HC G g s i0 i1 ρ' t 0 (-1) 0 σ0 σ1 m1 n mr := fun ρ' hρ => hC.mv g1 al_pCa Cr.rf (hRL ρ' hρ).1 (hRL ρ' hρ).2 (hC.2.1.2.2.mv (fun b u v => g1.row (fun k => by simp [pCa]))) eN e2 e3 (Or.inl e60) ⟨Or.inl e70, fun z => absurd e70 z⟩
    have hL1 := hC.lay
    have hR1 := hR.all (g := g) g1 al_pCa
    have sc1 := Scr.all (g := g) g1 al_pCa
    have h11 := hR1.2.2.1.1
    have h86 := hR1.2.1
    refine t_laws (F := F) hL1 (by rw [h86, h11]; exact hT) hR1.2.2.2.2.1 (by rw [h86, h11]; exact hF) (fun p' hp' => ?_) (fun L' hL' l12' m2 g2 e11 e16 e1 e33 e25 hlo hwf => ?_)
    · rw [h86, h11, hL] at hp'
      cases hp'
    · rw [h86, h11, hL] at hL'
      injection hL' with hL'
      subst hL'
      have g2 : Ch pRa m1 m2 := g2
      rw [hR1.1] at hlo
      refine hf m2 n mr (sc1.tr (Scr.ch g2 sc_pRa)) (LSt.mk ((hC1 _ hlo).ch g2 hi_pRa) (hR1.gen g2 (fun k => by simp [pRa, pRl]) rfl e11 e16 e1 e25 (fun m x y z => by omega)) ⟨(Inv_laws hP.1 hlo l12 hwf).mono hB, hT.nil, fun τ z => (hP.2.2.1 τ z).mono hB, fun τ z => (hP.2.2.2 τ z).mono hB⟩)
theorem b_lines (hS : LSt B mi n mr) (hB : B ≤ B') : Both 20 mt_X11_lines [vR (some (0, 0))] mt_X12_lines [vR (some (0, 80))] B' mi n mr := by
  obtain ⟨G, g, s, i0, i1, ρ, t, N, fl, st, σ0, σ1, hC, hR, hP⟩ := hS
  intro Q1 hQ
  have hN := hC.2.2.1.2.1
  have ht := hC.2.2.1.1
  have hT := hP.2.1
  have hg4 := hC.g4
  have hgl := hC.lt
  obtain ⟨F, hF⟩ : ∃ F, F = finR (tkF t N) (nuF t N) (nxF t N) 1 := ⟨_, rfl⟩
  have hc : cmpT t N 1 = cmpG F (tkF t N) (nxF t N) 12 (skp t N 0) := by unfold cmpT; rw [hF]
  refine u_clines hC.lay hC.now hgl hg4 hC.rep hP.1 (by rw [hN]; exact hT.1.1) (by rw [hN]; exact hT.1.2) (by rw [hN, ht]; exact hT.2) (fun p hp p0 m1 g1 eN e2 e3 => ?_) (fun L hL l12 s400 m1 g1 eN e2 e3 e60 e70 hRL => ?_)
  · have g1 : Cg pLs mi m1 := g1
    rw [ht, hN, hc] at hp
    refine hQ _ m1 n mr (Scr.all (g := g) g1 al_pLs) (fun Q2 hf => ?_)
    have hC1 := hC.bad g1 eN e2 e3
    have hR1 := hR.all (g := g) g1 al_pLs
    have sc1 := Scr.all (g := g) g1 al_pLs
    have h11 := hR1.2.2.1.1
    have h86 := hR1.2.1
    refine t_lines (F := F) hC1.lay (by rw [h86, h11]; exact hT) hR1.2.2.2.2.1 (by rw [h86, h11]; exact hF) (fun p' hp' m2 g2 e11 e16 e1 e25 => ?_) (fun L hL => ?_)
    · rw [h86, h11, hp] at hp'
      injection hp' with hp'
      subst hp'
      exact hf m2 n mr (sc1.tr (Scr.ch g2 sc_pRl)) (LSt.mk (hC1.ch g2 hi_pRl) (hR1.bad g2 e11 e16 e1 e25) ⟨hP.1.mono hB, hT.nil, fun τ z => (hP.2.2.1 τ z).mono hB, fun τ z => (hP.2.2.2 τ z).mono hB⟩)
    · rw [h86, h11, hp] at hL
      cases hL
  · have g1 : Cg (pCb g) mi m1 := g1
    rw [ht, hN, hc] at hL
    refine hQ _ m1 n mr (Scr.all (g := g) g1 al_pCb) (fun Q2 hf => ?_)
    have hC1 : ∀ ρ', LinesOf ρ ρ' L → HC G g s i0 i1 ρ' t 0 (-1) 0 σ0 σ1 m1 n mr := fun ρ' hρ => hC.mv g1 al_pCb Cr.rf (hRL ρ' hρ).1 (hC.2.1.2.1.mv (fun b u v => g1.row (fun k => by simp [pCb]; intro _; exact ⟨u, v⟩))) (hRL ρ' hρ).2 eN e2 e3 (Or.inl e60) ⟨Or.inl e70, fun z => absurd e70 z⟩
    have hL1 := hC.lay
    have hR1 := hR.all (g := g) g1 al_pCb
    have sc1 := Scr.all (g := g) g1 al_pCb
    have h11 := hR1.2.2.1.1
    have h86 := hR1.2.1
    refine t_lines (F := F) hL1 (by rw [h86, h11]; exact hT) hR1.2.2.2.2.1 (by rw [h86, h11]; exact hF) (fun p' hp' => ?_) (fun L' hL' l12' m2 g2 e11 e16 e1 e25 hlo hwf => ?_)
    · rw [h86, h11, hL] at hp'
      cases hp'
    · rw [h86, h11, hL] at hL'
      injection hL' with hL'
      subst hL'
      have g2 : Ch pRb m1 m2 := g2
      rw [hR1.1] at hlo
      have hm : mdEq ρ (m2 0 81) := fun k hk => by
        obtain ⟨-, -, -, -, -, ek⟩ := hlo
        unfold mdP at hk
        exact ek k (by omega) (by omega) (by omega) (by omega) (by omega) (by omega)
      refine hf m2 n mr (sc1.tr (Scr.ch g2 sc_pRb)) (LSt.mk ((hC1 _ hlo).ch g2 hi_pRb) (hR1.gen g2 (fun k => by simp [pRb, pRl]) rfl e11 e16 e1 e25 (fun m x y z => ?_)) ⟨(Inv_lines hP.1 hlo l12 (cmpG_ne _ _ hL) hwf).mono hB, hT.nil, fun τ z => (hP.2.2.1 τ z).mono hB, fun τ z => (hP.2.2.2 τ z).mono hB⟩)
      rw [g2.at (by simp [pRb, pRl])] at z
      exact (hR1.2.2.2.2.2 m x y z).eq hm hP.1.mdw (g2.at (by simp [pRb, pRl])) (g2.at (by simp [pRb, pRl])) (g2.at (by simp [pRb, pRl])) (g2.row (fun k => by simp [pRb, pRl]))
end OPE
