/-! the law: mends, the paper, the tape -/
section OPC0
variable {d n G : Nat} {mr : MR} {Q : V → MI → Nat → MR → Prop}
theorem t_leastN (hL : Lay G mr) {mi : MI} {m w : Int} (hw : ¬ (0 ≤ w ∧ w ≤ 2)) (hQ : ∀ mi', Ch p0 mi mi' → Q (vI (-1)) mi' n mr) : Tx (d+10) mt_X12_least [vR (some (0, 80)), vI m, vI w] mi n mr Q := by
  refine tx_intro (ls := [vR (some (0, 80)), vI m, vI w]) om_X12_least rfl (Nat.le_of_ble_eq_true rfl) ?_
  refine r_aload_n (dc kc_X12_least_0 0 rfl) rfl <| k_i (dc kc_X12_least_0 1 rfl) rfl <| s_putI (dc kc_X12_least_0 2 rfl) fl_X12_86 <| s_iload_n (dc kc_X12_least_0 3 rfl) rfl <| s_i2l (dc kc_X12_least_0 4 rfl) <| s_lconst1 (dc kc_X12_least_0 5 rfl) <| k_j (dc kc_X12_least_0 6 rfl) kj_X12_402 rfl (a := 3) (by decide) <| c_s3r (dc kc_X12_least_0 7 rfl) cl_X12_92 rfl (Nat.le_of_ble_eq_true rfl) (Nat.zero_le _) (Nat.zero_le _) <| t_in <| s_if_eqb (tgt := 29) (dc kc_X12_least_0 8 rfl) rfl (fun c14 => (k_i (dc kc_X12_least_0 15 rfl) rfl <| s_ireturn (dc kc_X12_least_0 16 rfl) rfl (Nat.zero_le _) (Nat.zero_le _) ?_)) (fun c14 => (s_iload_n (dc kc_X12_least_0 9 rfl) rfl <| s_i2l (dc kc_X12_least_0 10 rfl) <| s_lconst0 (dc kc_X12_least_0 11 rfl) <| k_j (dc kc_X12_least_0 12 rfl) kj_X12_235 rfl (a := 2) (by decide) <| c_s3r (dc kc_X12_least_0 13 rfl) cl_X12_92 rfl (Nat.le_of_ble_eq_true rfl) (Nat.zero_le _) (Nat.zero_le _) <| t_in <| s_if_neb (tgt := 31) (dc kc_X12_least_0 14 rfl) rfl (fun c26 => (?_)) (fun c26 => (k_i (dc kc_X12_least_0 15 rfl) rfl <| s_ireturn (dc kc_X12_least_0 16 rfl) rfl (Nat.zero_le _) (Nat.zero_le _) ?_))))
  · exact hQ _ (Ch.rf.up rfl)
  · exact absurd c26 hw
  · exact hQ _ (Ch.rf.up rfl)
end OPC0
theorem hi_pKK : ∀ j k, pKK j k = true → 80 ≤ j := fun j k h => by simp [pKK] at h; omega
theorem qk_pKK : qOk pKK := ⟨fun k => by simp [pKK], by simp [pKK], by simp [pKK], by simp [pKK]⟩
theorem sc_pKK : ∀ k, pKK 110 k = false ∧ pKK 111 k = false := fun k => by simp [pKK]
theorem hi_pU : ∀ j k, pU j k = true → 80 ≤ j := fun j k h => by simp [pU] at h; omega
theorem qk_pU : qOk pU := ⟨fun k => by simp [pU], by simp [pU], by simp [pU], by simp [pU]⟩
theorem sc_pU : ∀ k, pU 110 k = false ∧ pU 111 k = false := fun k => by simp [pU]
theorem hi_pG : ∀ j k, pG j k = true → 80 ≤ j := fun j k h => by simp [pG] at h; omega
theorem sc_pG : ∀ k, pG 110 k = false ∧ pG 111 k = false := fun k => by simp [pG]
theorem sc_pFd : ∀ k, pFd 0 110 k = false ∧ pFd 0 111 k = false := fun k => by simp [pFd]
theorem no_both {ρ : Int → Int} {m P C : Int} (h : NoMend ρ m) (h' : Least ρ m P C) : False := by
  obtain ⟨⟨L, a, b, -⟩, c, -⟩ := h'
  have := h L a
  omega
theorem put4_by {t : Int → Int} {p v : Int} (h : ∀ i, 0 ≤ i → i < p → 0 ≤ t i ∧ t i ≤ 255) : ∀ i, 0 ≤ i → i < p + 4 → 0 ≤ put4 t p v i ∧ put4 t p v i ≤ 255 := fun i h0 h1 => by
  unfold put4
  have hb := fun x => bAnd_low x (m := 255) (by decide)
  have hb : ∀ x, 0 ≤ bAnd x 255 ∧ bAnd x 255 ≤ 255 := hb
  by_cases e3 : i = p + 3
  · rw [e3, ud_at]; exact hb _
  rw [ud_ne e3]
  by_cases e2 : i = p + 2
  · rw [e2, ud_at]; exact hb _
  rw [ud_ne e2]
  by_cases e1 : i = p + 1
  · rw [e1, ud_at]; exact hb _
  rw [ud_ne e1]
  by_cases e0 : i = p
  · rw [e0, ud_at]; exact hb _
  rw [ud_ne e0]
  exact h i h0 (by omega)
theorem fedR_by {t : Int → Int} {p a b c e f : Int} (h : ∀ i, 0 ≤ i → i < p → 0 ≤ t i ∧ t i ≤ 255) : ∀ i, 0 ≤ i → i < p + 20 → 0 ≤ fedR t p a b c e f i ∧ fedR t p a b c e f i ≤ 255 := by
  have h1 := put4_by (v := a) h
  have h2 := put4_by (v := b) h1
  rw [show p + 4 + 4 = p + 8 by omega] at h2
  have h3 := put4_by (v := c) h2
  rw [show p + 8 + 4 = p + 12 by omega] at h3
  have h4 := put4_by (v := e) h3
  rw [show p + 12 + 4 = p + 16 by omega] at h4
  have h5 := put4_by (v := f) h4
  rw [show p + 16 + 4 = p + 20 by omega] at h5
  exact h5
section OPC
variable {G g n : Nat} {s i0 i1 : Option Nat} {ρ ρ' t t' : Int → Int} {N N' fl fl' st st' B B' : Int} {σ0 σ1 : Option (Int → Int)} {mi m1 m2 : MI} {mr r1 : MR}
theorem al_pMd : ∀ a b k, pMd a b k = true → pAll g a b = true := fun a b k h => by simp [pMd, pQ] at h; simp [pAll]; omega
theorem nt_pMd : ∀ (a b : Nat) (k : Int), pMd a b k = true → (b < 20 ∨ 27 < b) ∧ (b = 0 → k ≠ 1 ∧ k ≠ 2) := fun a b k h => by simp [pMd, pQ] at h; omega
theorem HC.md (h : HC G g s i0 i1 ρ t N fl st σ0 σ1 mi n mr) (g1 : Cg pMd mi m1) (c1 : Cr mr r1) (hK : MkK m1 r1 ρ) : HC G g s i0 i1 ρ t N fl st σ0 σ1 m1 n r1 := by
  have e : ∀ a b, b = 0 ∨ 69 ≤ b → m1 a b = mi a b := fun a b hb => g1.row (fun k => by simp [pMd, pQ]; omega)
  refine h.chg g1 al_pMd nt_pMd c1 (h.rep.md g1) (by rw [e 0 0 (by omega)]; exact h.2.2.1.2.2.2) hK ?_
  unfold PpK
  rw [e 0 70 (by omega), e 0 73 (by omega)]
  exact h.pp2
theorem HR.lk {m : Int} (h : HR ρ t N fl st σ0 σ1 m1) (g2 : Ch pKK m1 m2) (e81 : m2 0 81 = ρ) (e1 : m2 0 80 1 = st') (e33 : m2 0 80 33 = m) (hY : LkY ρ m m2) : HR ρ t N fl st' σ0 σ1 m2 := h.ch g2 qk_pKK e81 e1 (fun x a b z => by
  have : x = m := by omega
  subst this
  exact hY)
theorem b_least (hS : LSt B mi n mr) (hB : B ≤ B') {m w : Int} : Both 20 mt_X11_least [vR (some (0, 0)), vI m, vI w] mt_X12_least [vR (some (0, 80)), vI m, vI w] B' mi n mr := by
  obtain ⟨G, g, s, i0, i1, ρ, t, N, fl, st, σ0, σ1, hC, hR, hP⟩ := hS
  intro Q1 hQ
  have hp := hP.1.2.2.1.2.1
  refine u_cleast hC.lay hC.now hC.lt hC.rep hP.1 hC.mk (fun hn m1 r1 g1 c1 hK => ?_) (fun x1 x2 hn m1 r1 g1 c1 hK => ?_) (fun x1 x2 x3 P C Y a hl hY y0 y1 y2 m1 r1 g1 c1 hK => ?_)
  · refine hQ _ m1 n r1 (Scr.all (g := g) g1 al_pMd) (fun Q2 hf => ?_)
    have hC1 := hC.md g1 c1 hK
    have hR1 := hR.all (g := g) g1 al_pMd
    have sc1 := Scr.all (g := g) g1 al_pMd
    have k33 := hR1.2.2.2.2.2
    obtain ⟨e81, -⟩ := id hR1
    subst e81
    have fin : ∀ m2, Ch p0 m1 m2 → Q2 (vI (-1)) m2 n r1 := fun m2 g2 => hf m2 n r1 (sc1.tr (Scr.ch g2 sc_p0)) (LSt.mk (hC1.ch g2 hi_p0) (hR1.q0 g2) (hP.mono hB))
    by_cases hw : 0 ≤ w ∧ w ≤ 2
    · exact t_least hC1.lay hP.1.1 hp k33 (fun _ => fin) (fun a b => absurd ⟨⟨a, b⟩, hw⟩ hn) (fun a b => absurd ⟨⟨a, b⟩, hw⟩ hn)
    · exact t_leastN hC1.lay hw fin
  · refine hQ _ m1 n r1 (Scr.all (g := g) g1 al_pMd) (fun Q2 hf => ?_)
    have hC1 := hC.md g1 c1 hK
    have hR1 := hR.all (g := g) g1 al_pMd
    have sc1 := Scr.all (g := g) g1 al_pMd
    have k33 := hR1.2.2.2.2.2
    have e1' := hR1.2.2.1.2.2
    obtain ⟨e81, -⟩ := id hR1
    subst e81
    have fin : ∀ m2, Ch p0 m1 m2 → Q2 (vI (-1)) m2 n r1 := fun m2 g2 => hf m2 n r1 (sc1.tr (Scr.ch g2 sc_p0)) (LSt.mk (hC1.ch g2 hi_p0) (hR1.q0 g2) (hP.mono hB))
    by_cases hw : 0 ≤ w ∧ w ≤ 2
    · exact t_least hC1.lay hP.1.1 hp k33 (fun hz => absurd ⟨⟨x1, x2⟩, hw⟩ hz) (fun _ _ _ m2 g2 e81 e1 e33 hY => hf m2 n r1 (sc1.tr (Scr.ch g2 sc_pKK)) (LSt.mk (hC1.ch g2 hi_pKK) (hR1.lk g2 e81 (e1.trans e1') e33 hY) (hP.mono hB))) (fun _ _ P C Y a hl => (no_both hn hl).elim)
    · exact t_leastN hC1.lay hw fin
  · refine hQ _ m1 n r1 (Scr.all (g := g) g1 al_pMd) (fun Q2 hf => ?_)
    have hC1 := hC.md g1 c1 hK
    have hR1 := hR.all (g := g) g1 al_pMd
    have sc1 := Scr.all (g := g) g1 al_pMd
    have k33 := hR1.2.2.2.2.2
    have e1' := hR1.2.2.1.2.2
    obtain ⟨e81, -⟩ := id hR1
    subst e81
    refine t_least hC1.lay hP.1.1 hp k33 (fun hz => absurd ⟨⟨x1, x2⟩, x3⟩ hz) (fun _ _ hn => (no_both hn hl).elim) (fun _ _ P' C' Y' a' hl' hY' z0 z1 z2 m2 g2 e81 e1 e33 hk => ?_)
    obtain ⟨u1, u2⟩ := hl.uniq hl'
    subst u1
    subst u2
    have u3 := hY.uniq hY'
    subst u3
    have : a' = a := by
      have : w = 0 ∨ w = 1 ∨ w = 2 := by omega
      rcases this with e | e | e
      · rw [y0 e, z0 e]
      · rw [y1 e, z1 e]
      · rcases y2 e with ⟨f1, f2⟩ | ⟨f1, f2⟩
        · rcases z2 e with ⟨f3, f4⟩ | ⟨f3, f4⟩
          · rw [f1, f3]
          · exact absurd f2 f4
        · rcases z2 e with ⟨f3, f4⟩ | ⟨f3, f4⟩
          · exact absurd f4 f2
          · rw [f1, f3]
    subst this
    exact hf m2 n r1 (sc1.tr (Scr.ch g2 sc_pKK)) (LSt.mk (hC1.ch g2 hi_pKK) (hR1.lk g2 e81 (e1.trans e1') e33 hk) (hP.mono hB))
theorem b_mends (hS : LSt B mi n mr) (hB : B ≤ B') {m i k w : Int} : Both 20 mt_X11_mends [vR (some (0, 0)), vI m, vI i, vI k, vI w] mt_X12_mends [vR (some (0, 80)), vI m, vI i, vI k, vI w] B' mi n mr := by
  obtain ⟨G, g, s, i0, i1, ρ, t, N, fl, st, σ0, σ1, hC, hR, hP⟩ := hS
  intro Q1 hQ
  have hp := hP.1.2.2.1.2.1
  refine u_cmends hC.lay hC.now hC.lt hC.rep hP.1 hC.mk (fun hn m1 r1 g1 c1 hK => ?_) (fun x1 x2 hn m1 r1 g1 c1 hK => ?_) (fun x1 x2 P C Y a hl hY y0 y1 y2 m1 r1 g1 c1 hK => ?_)
  · refine hQ _ m1 n r1 (Scr.all (g := g) g1 al_pMd) (fun Q2 hf => ?_)
    have hC1 := hC.md g1 c1 hK
    have hR1 := hR.all (g := g) g1 al_pMd
    have sc1 := Scr.all (g := g) g1 al_pMd
    have k33 := hR1.2.2.2.2.2
    have e1' := hR1.2.2.1.2.2
    obtain ⟨e81, -⟩ := id hR1
    subst e81
    exact t_mends hC1.lay hP.1.1 hp k33 (fun _ m2 g2 => hf m2 n r1 (sc1.tr (Scr.ch g2 sc_p0)) (LSt.mk (hC1.ch g2 hi_p0) (hR1.q0 g2) (hP.mono hB))) (fun _ _ _ m2 g2 e81 e1 e33 hY => hf m2 n r1 (sc1.tr (Scr.ch g2 sc_pKK)) (LSt.mk (hC1.ch g2 hi_pKK) (hR1.lk g2 e81 (e1.trans e1') e33 hY) (hP.mono hB))) (fun a b c => absurd ⟨⟨a, b⟩, c⟩ hn)
  · refine hQ _ m1 n r1 (Scr.all (g := g) g1 al_pMd) (fun Q2 hf => ?_)
    have hC1 := hC.md g1 c1 hK
    have hR1 := hR.all (g := g) g1 al_pMd
    have sc1 := Scr.all (g := g) g1 al_pMd
    have k33 := hR1.2.2.2.2.2
    have e1' := hR1.2.2.1.2.2
    obtain ⟨e81, -⟩ := id hR1
    subst e81
    exact t_mends hC1.lay hP.1.1 hp k33 (fun _ m2 g2 => hf m2 n r1 (sc1.tr (Scr.ch g2 sc_p0)) (LSt.mk (hC1.ch g2 hi_p0) (hR1.q0 g2) (hP.mono hB))) (fun _ _ _ m2 g2 e81 e1 e33 hY => hf m2 n r1 (sc1.tr (Scr.ch g2 sc_pKK)) (LSt.mk (hC1.ch g2 hi_pKK) (hR1.lk g2 e81 (e1.trans e1') e33 hY) (hP.mono hB))) (fun _ _ _ P C Y a hl => (no_both hn hl).elim)
  · refine hQ _ m1 n r1 (Scr.all (g := g) g1 al_pMd) (fun Q2 hf => ?_)
    have hC1 := hC.md g1 c1 hK
    have hR1 := hR.all (g := g) g1 al_pMd
    have sc1 := Scr.all (g := g) g1 al_pMd
    have k33 := hR1.2.2.2.2.2
    have e1' := hR1.2.2.1.2.2
    obtain ⟨e81, -⟩ := id hR1
    subst e81
    refine t_mends hC1.lay hP.1.1 hp k33 (fun hz m2 g2 => ?_) (fun _ _ hn => (no_both hn hl).elim) (fun _ _ x3 P' C' Y' a' hl' hY' z0 z1 m2 g2 e81 e1 e33 hk => ?_)
    · have : a = -1000 := y2 (fun z => hz ⟨⟨x1, x2⟩, z⟩)
      subst this
      exact hf m2 n r1 (sc1.tr (Scr.ch g2 sc_p0)) (LSt.mk (hC1.ch g2 hi_p0) (hR1.q0 g2) (hP.mono hB))
    · obtain ⟨u1, u2⟩ := hl.uniq hl'
      subst u1
      subst u2
      have u3 := hY.uniq hY'
      subst u3
      have : a' = a := by
        by_cases e : (0 ≤ i ∧ i < min (Y.length : Int) 500) ∧ (0 ≤ k ∧ k < C)
        · obtain ⟨L1, q1, f1, f2, f3⟩ := y1 e.1 e.2 x3
          obtain ⟨L2, q2, f4, f5, f6⟩ := z1 e.1 e.2
          rw [f1] at f4
          injection f4 with f4
          subst f4
          rw [f2] at f5
          injection f5 with f5
          subst f5
          rw [f3, f6]
        · rw [y0 e, z0 e]
      subst this
      exact hf m2 n r1 (sc1.tr (Scr.ch g2 sc_pKK)) (LSt.mk (hC1.ch g2 hi_pKK) (hR1.lk g2 e81 (e1.trans e1') e33 hk) (hP.mono hB))
theorem al_pMs : ∀ a b k, pMs a b k = true → pAll g a b = true := fun a b k h => by simp [pMs, pMd, pQ] at h; simp [pAll]; omega
theorem nt_pMs : ∀ (a b : Nat) (k : Int), pMs a b k = true → (b < 20 ∨ 27 < b) ∧ (b = 0 → k ≠ 1 ∧ k ≠ 2) := fun a b k h => by simp [pMs, pMd, pQ] at h; omega
theorem al_pMe : ∀ a b k, pMe g a b k = true → pAll g a b = true := fun a b k h => by simp [pMe, pMs, pMd, pQ, pSt, pJ] at h; simp [pAll, rlS]; omega
theorem nt_pMe : ∀ (a b : Nat) (k : Int), pMe g a b k = true → (b < 20 ∨ 27 < b) ∧ (b = 0 → k ≠ 1 ∧ k ≠ 2) := fun a b k h => by simp [pMe, pMs, pMd, pQ, pSt, pJ] at h; omega
theorem b_mend (hS : LSt B mi n mr) (hB : B ≤ B') {m i : Int} : Both 20 mt_X11_mend [vR (some (0, 0)), vI m, vI i] mt_X12_mend [vR (some (0, 80)), vI m, vI i] B' mi n mr := by
  obtain ⟨G, g, s, i0, i1, ρ, t, N, fl, st, σ0, σ1, hC, hR, hP⟩ := hS
  intro Q1 hQ
  have hp := hP.1.2.2.1.2.1
  refine u_cmend hC.lay hC.now hC.lt hC.rep hP.1 hC.mk (fun hn => ?_) (fun x1 x2 x3 m1 r1 g1 c1 hK e3 => ?_) (fun x1 x2 P C Y L hl hY hC0 hi hd hL m1 r1 g1 c1 hR1 e3 e60 e70 => ?_)
  · refine hQ _ _ n mr (Scr.rf _) (fun Q2 hf => ?_)
    have hC1 := hC.rf (-1)
    have hR1 := hR.rf (-1)
    have k33 := hR1.2.2.2.2.2
    obtain ⟨e81, -⟩ := id hR1
    subst e81
    exact t_mend hC1.lay hP.1.1 hp k33 (fun _ m2 g2 e1 => hf m2 n mr ((Scr.rf _).tr (Scr.ch g2 sc_pT)) (LSt.mk (hC1.ch g2 hi_pT) (hR1.qT g2 e1) (hP.mono hB))) (fun a b => absurd ⟨a, b⟩ hn) (fun a b => absurd ⟨a, b⟩ hn)
  · refine hQ _ m1 n r1 (Scr.all (g := g) g1 al_pMs) (fun Q2 hf => ?_)
    have hC1 : HC G g s i0 i1 ρ t N fl (-3) σ0 σ1 m1 n r1 := by
      have e : ∀ a b, b = 70 ∨ b = 73 → m1 a b = mi a b := fun a b hb => g1.row (fun k => by simp [pMs, pMd, pQ]; omega)
      refine hC.chg g1 al_pMs nt_pMs c1 (hC.rep.far (fun a b z1 z2 => g1.row (fun k => by simp [pMs, pMd, pQ]; omega))) e3 hK ?_
      unfold PpK
      rw [e 0 70 (by omega), e 0 73 (by omega)]
      exact hC.pp2
    have hR1 := hR.all (g := g) g1 al_pMs
    have sc1 := Scr.all (g := g) g1 al_pMs
    have k33 := hR1.2.2.2.2.2
    obtain ⟨e81, -⟩ := id hR1
    subst e81
    refine t_mend hC1.lay hP.1.1 hp k33 (fun hz => absurd ⟨x1, x2⟩ hz) (fun _ _ _ m2 g2 e81 e1 e33 hY => hf m2 n r1 (sc1.tr (Scr.ch g2 sc_pKK)) (LSt.mk (hC1.ch g2 hi_pKK) (hR1.lk g2 e81 e1 e33 hY) (hP.mono hB))) (fun _ _ P C Y L hl hY hC0 hi hd hL => ?_)
    exfalso
    rcases x3 with hn | ⟨P', C', Y', hl', hY', hz⟩
    · exact no_both hn hl
    · obtain ⟨u1, u2⟩ := hl.uniq hl'
      subst u1
      subst u2
      have u3 := hY.uniq hY'
      subst u3
      rcases hz with z | ⟨z1, z2⟩ | ⟨z1, z2⟩
      · exact hC0 z
      · exact z2 (hi z1)
      · exact hd z1 z2
  · refine hQ _ m1 n r1 (Scr.all (g := g) g1 al_pMe) (fun Q2 hf => ?_)
    have hC1 := hC.fgt g1 al_pMe nt_pMe c1 hR1 e3 e60 e70
    have hI : Inv B (mndR ρ L) := Inv_mndR hP.1 (fun q hq => by
      have hm := List.mem_of_getElem? hL
      have := ((hY.2 L).mp hm).1.2.1.2 q hq
      exact ⟨this.1, this.2.1, this.2.2.1⟩)
    have hR1 := hR.all (g := g) g1 al_pMe
    have sc1 := Scr.all (g := g) g1 al_pMe
    have k33 := hR1.2.2.2.2.2
    obtain ⟨e81, -⟩ := id hR1
    subst e81
    refine t_mend hC1.lay hP.1.1 hp k33 (fun hz => absurd ⟨x1, x2⟩ hz) (fun _ _ x3 => ?_) (fun _ _ P' C' Y' L' hl' hY' hC0' hi' hd' hL' m2 g2 e81 e1 e33 => ?_)
    · exfalso
      rcases x3 with hn | ⟨P', C', Y', hl', hY', hz⟩
      · exact no_both hn hl
      · obtain ⟨u1, u2⟩ := hl.uniq hl'
        subst u1
        subst u2
        have u3 := hY.uniq hY'
        subst u3
        rcases hz with z | ⟨z1, z2⟩ | ⟨z1, z2⟩
        · exact hC0 z
        · exact z2 (hi z1)
        · exact hd z1 z2
    · obtain ⟨u1, u2⟩ := hl.uniq hl'
      subst u1
      subst u2
      have u3 := hY.uniq hY'
      subst u3
      rw [hL] at hL'
      injection hL' with hL'
      subst hL'
      exact hf m2 n r1 (sc1.tr (Scr.ch g2 sc_pKK)) (LSt.mk (hC1.ch g2 hi_pKK) (hR1.fgt g2 qk_pKK e81 e1 e33) (hP.row hB (hI.mono hB)))
theorem al_pPp : ∀ a b k, pPp a b k = true → pAll g a b = true := fun a b k h => by simp [pPp, pGo, pW5, pQ] at h; simp [pAll]; omega
theorem nt_pPp : ∀ (a b : Nat) (k : Int), pPp a b k = true → (b < 20 ∨ 27 < b) ∧ (b = 0 → k ≠ 1 ∧ k ≠ 2) := fun a b k h => by simp [pPp, pGo, pW5, pQ] at h; omega
theorem b_putIn (hS : LSt B mi n mr) (hB : B ≤ B') {x w : Int} : Both 20 mt_X11_putIn [vR (some (0, 0)), vI x, vI w] mt_X12_putIn [vR (some (0, 80)), vI x, vI w] B' mi n mr := by
  obtain ⟨G, g, s, i0, i1, ρ, t, N, fl, st, σ0, σ1, hC, hR, hP⟩ := hS
  intro Q1 hQ
  have hg4 := hC.g4
  have hgl := hC.lt
  refine u_cputIn hC.lay hC.now hg4 hgl hC.rep hP.1 hC.pp (fun hn => ?_) (fun x1 x2 x3 x4 x5 m1 r1 g1 c1 hK => ?_)
  · refine hQ _ mi n mr ⟨rfl, rfl⟩ (fun Q2 hf => ?_)
    obtain ⟨e81, -⟩ := id hR
    subst e81
    exact t_putIn hC.lay hP.1.1 (fun _ m2 g2 => hf m2 n mr (Scr.ch g2 sc_p0) (LSt.mk (hC.ch g2 hi_p0) (hR.q0 g2) (hP.mono hB))) (fun a b c d e => absurd ⟨⟨a, b⟩, ⟨c, d⟩, e⟩ hn)
  · refine hQ _ m1 n r1 (Scr.all (g := g) g1 al_pPp) (fun Q2 hf => ?_)
    have hC1 : HC G g s i0 i1 ρ t N fl st σ0 σ1 m1 n r1 := by
      have e : ∀ a b, b = 0 ∨ (57 ≤ b ∧ b ≤ 68) → m1 a b = mi a b := fun a b hb => g1.row (fun k => by simp [pPp, pGo, pW5, pQ]; omega)
      refine hC.chg g1 al_pPp nt_pPp c1 (hC.rep.mv (fun a b z => g1.row (fun k => by
        simp [rlS] at z
        simp [pPp, pGo, pW5, pQ]
        omega))) (by rw [e 0 0 (by omega)]; exact hC.2.2.1.2.2.2) (hC.mk.mvr (fun a b z1 z2 => e a b (by omega)) (fun z => c1.m2 z)) ⟨hK, fun _ => x5⟩
    have hR1 := hR.all (g := g) g1 al_pPp
    have e1' := hR1.2.2.1.2.2
    have sc1 := Scr.all (g := g) g1 al_pPp
    obtain ⟨e81, -⟩ := id hR1
    subst e81
    refine t_putIn hC1.lay hP.1.1 (fun hz => absurd ⟨⟨x1, x2⟩, ⟨x3, x4⟩, x5⟩ hz) (fun _ _ _ _ _ m2 g2 e81 => hf m2 n r1 (sc1.tr (Scr.ch g2 sc_pU)) (LSt.mk (hC1.ch g2 hi_pU) (hR1.kep hP.1.mdw g2 qk_pU (fun k => by simp [pU]) (by simp [pU]) (fun _ _ => rfl) e81 (by rw [g2.at (by simp [pU])]; exact e1')) (hP.mono hB)))
/-- the class: the tape alone is another -/
theorem HC.tap (h : HC G g s i0 i1 ρ t N fl st σ0 σ1 mi n mr) (g1 : Cg pFd mi m1) (et : m1 0 1 = t') (eN : m1 0 0 1 = N') : HC G g s i0 i1 ρ t' N' fl st σ0 σ1 m1 n mr := by
  have e : ∀ a b, 2 ≤ b → m1 a b = mi a b := fun a b hb => g1.row (fun k => by simp [pFd]; omega)
  have hg4 := h.own.g4
  obtain ⟨⟨a1, a2, a3, a4⟩, ⟨x1, x2, x3⟩, ⟨y1, y2, y3, y4⟩, ⟨c1, c2⟩, z1, z2⟩ := h
  have hs : ∀ x a b, rlS x a b = true → m1 a b = mi a b := fun x a b z => e a b (by simp [rlS] at z; omega)
  refine ⟨⟨a1, a2, a3, fun i h1 h2 k => ?_⟩, ⟨x1.mv (hs g), x2.mv (fun b _ z => e _ b (by omega)), x3.mv (fun b _ z => e _ b (by omega))⟩, ⟨et, eN, by rw [g1.at (by decide)]; exact y3, by rw [g1.at (by decide)]; exact y4⟩, ⟨c1.mv (fun x _ => hs x), c2.mv (fun x _ => hs x)⟩, z1.mvr (fun a b u v => e a b (by omega)) id, ?_⟩
  · have hu := nm_unm hg4.1 hg4.2 a3 h1 h2
    rw [e _ _ (by unfold unm at hu; omega)]
    exact a4 i h1 h2 k
  · unfold PpK at *
    rw [e 0 70 (by omega), e 0 73 (by omega)]
    exact z2
theorem HR.gen {p : Nat → Int → Bool} (h : HR ρ t N fl st σ0 σ1 m1) (hg : Ch p m1 m2) (hp : ∀ k, p 83 k = false ∧ p 84 k = false ∧ p 86 k = false) (e81 : m2 0 81 = ρ') (e11 : m2 0 80 11 = N') (e16 : m2 0 80 16 = fl') (e1 : m2 0 80 1 = st') (e25 : -100 ≤ m2 0 80 25 ∧ m2 0 80 25 ≤ 100) (hk : ∀ m, 1 ≤ m → m ≤ 3 → m2 0 80 33 = m → LkY ρ' m m2) : HR ρ' t N' fl' st' σ0 σ1 m2 := by
  obtain ⟨a1, a2, ⟨a3, a4, a5⟩, ⟨b1, b2⟩, c, d⟩ := h
  have e83 := hg.row (j := 83) (fun k => (hp k).1)
  have e84 := hg.row (j := 84) (fun k => (hp k).2.1)
  exact ⟨e81, by rw [hg.row (j := 86) (fun k => (hp k).2.2)]; exact a2, ⟨e11, e16, e1⟩, ⟨b1.mv e83 e84, b2.mv e83 e84⟩, e25, hk⟩
theorem HR.tap (h : HR ρ t N fl st σ0 σ1 m1) (hg : Ch pG m1 m2) (e86 : m2 0 86 = t') (e11 : m2 0 80 11 = N') : HR ρ t' N' fl st σ0 σ1 m2 := by
  obtain ⟨a1, a2, ⟨a3, a4, a5⟩, ⟨b1, b2⟩, c, d⟩ := h
  have e83 := hg.row (j := 83) (fun k => by simp [pG])
  have e84 := hg.row (j := 84) (fun k => by simp [pG])
  refine ⟨by rw [hg.row (j := 81) (fun k => by simp [pG])]; exact a1, e86, ⟨e11, by rw [hg.at (by simp [pG])]; exact a4, by rw [hg.at (by simp [pG])]; exact a5⟩, ⟨b1.mv e83 e84, b2.mv e83 e84⟩, by rw [hg.at (by simp [pG])]; exact c, fun m x y z => ?_⟩
  rw [hg.at (by simp [pG])] at z
  have := d m x y z
  unfold LkY at *
  rw [hg.at (by simp [pG]), hg.at (by simp [pG]), hg.at (by simp [pG]), hg.row (j := 93) (fun k => by simp [pG])]
  exact this
theorem b_feed (hS : LSt B mi n mr) (hB : B ≤ B') {a b c e f : Int} : Both 20 mt_X11_feed [vR (some (0, 0)), vI a, vI b, vI c, vI e, vI f] mt_X12_feed [vR (some (0, 80)), vI a, vI b, vI c, vI e, vI f] B' mi n mr := by
  obtain ⟨G, g, s, i0, i1, ρ, t, N, fl, st, σ0, σ1, hC, hR, hP⟩ := hS
  intro Q1 hQ
  have hN := hC.2.2.1.2.1
  have ht := hC.2.2.1.1
  have hT := hP.2.1
  refine u_cfeed hC.lay (by rw [hN]; exact hT.1.1) (by rw [hN]; exact hT.1.2) (fun hn => ?_) (fun x1 m1 g1 et eN => ?_)
  · refine hQ _ mi n mr ⟨rfl, rfl⟩ (fun Q2 hf => ?_)
    have h11 := hR.2.2.1.1
    exact t_feed hC.lay (by rw [h11]; exact hT.1.1) (by rw [h11]; exact hT.1.2) (fun _ m2 g2 => hf m2 n mr (Scr.ch g2 sc_p0) (LSt.mk (hC.ch g2 hi_p0) (hR.q0 g2) (hP.mono hB))) (fun hz => by omega)
  · refine hQ _ m1 n mr (Scr.cg g1 sc_pFd) (fun Q2 hf => ?_)
    have hC1 := hC.tap g1 et eN
    have hR1 : HR ρ t N fl st σ0 σ1 m1 := hR.cg g1 (fun b k hb => by simp [pFd]; omega)
    have h11 := hR1.2.2.1.1
    have h86 := hR1.2.1
    have hPP : HP B' ρ (fedR t N a b c e f) (N + 20) σ0 σ1 := ⟨hP.1.mono hB, ⟨⟨by have := hT.1; omega, by omega⟩, fedR_by hT.2⟩, fun τ z => (hP.2.2.1 τ z).mono hB, fun τ z => (hP.2.2.2 τ z).mono hB⟩
    rw [ht, hN] at hC1
    refine t_feed hC1.lay (by rw [h11]; exact hT.1.1) (by rw [h11]; exact hT.1.2) (fun hz => by omega) (fun _ m2 g2 e86 e11 => ?_)
    rw [h86, h11] at e86
    rw [h11] at e11
    rw [h11, ← hN]
    refine hf m2 n mr ((Scr.cg g1 sc_pFd).tr (Scr.ch g2 sc_pG)) (LSt.mk (hC1.ch g2 hi_pG) ?_ hPP)
    exact hR1.tap g2 e86 e11
theorem b_end (hS : LSt B mi n mr) (hB : B ≤ B') {x : Int} : Both 20 mt_X11_end [vR (some (0, 0)), vI x] mt_X12_end [vR (some (0, 80)), vI x] B' mi n mr := by
  obtain ⟨G, g, s, i0, i1, ρ, t, N, fl, st, σ0, σ1, hC, hR, hP⟩ := hS
  intro Q1 hQ
  have hN := hC.2.2.1.2.1
  have ht := hC.2.2.1.1
  have hT := hP.2.1
  refine u_cend (fun hn => ?_) (fun x1 x2 => ?_)
  · refine hQ _ mi n mr ⟨rfl, rfl⟩ (fun Q2 hf => ?_)
    have h11 := hR.2.2.1.1
    rw [hN, ← h11] at hn
    exact t_endC (fun _ m2 g2 => hf m2 n mr (Scr.ch g2 sc_p0) (LSt.mk (hC.ch g2 hi_p0) (hR.q0 g2) (hP.mono hB))) (fun a b => absurd ⟨a, b⟩ hn)
  · have g1 : Cg pFd mi (up mi 0 0 1 x) := Cg.rf.up (by simp [pFd])
    refine hQ _ _ n mr (Scr.cg g1 sc_pFd) (fun Q2 hf => ?_)
    have hC1 := hC.tap g1 ((up_j (by decide)).trans ht) up_at
    have hR1 : HR ρ t N fl st σ0 σ1 (up mi 0 0 1 x) := hR.cg g1 (fun b k hb => by simp [pFd]; omega)
    have h11 := hR1.2.2.1.1
    have h86 := hR1.2.1
    have hPP : HP B' ρ t x σ0 σ1 := ⟨hP.1.mono hB, ⟨⟨x1, by have := hT.1; omega⟩, fun i a b => hT.2 i a (by omega)⟩, fun τ z => (hP.2.2.1 τ z).mono hB, fun τ z => (hP.2.2.2 τ z).mono hB⟩
    refine t_endC (fun hz => absurd ⟨x1, by rw [h11, ← hN]; exact x2⟩ hz) (fun _ _ m2 g2 e86 e11 => ?_)
    exact hf m2 n mr ((Scr.cg g1 sc_pFd).tr (Scr.ch g2 sc_pG)) (LSt.mk (hC1.ch g2 hi_pG) (hR1.tap g2 (e86.trans h86) e11) hPP)
def pR0 (j : Nat) (k : Int) : Bool := pT j k || (j == 80 && k == 11)
def pR1 (j : Nat) (k : Int) : Bool := pL j k || (j == 80 && k == 11)
theorem hi_pR0 : ∀ j k, pR0 j k = true → 80 ≤ j := fun j k h => by simp [pR0, pT] at h; omega
theorem hi_pR1 : ∀ j k, pR1 j k = true → 80 ≤ j := fun j k h => by simp [pR1, pL] at h; omega
theorem al_pRw : ∀ a b k, pRw g a b k = true → pAll g a b = true := fun a b k h => by simp [pRw, pFl, pSt, pJ] at h; simp [pAll, rlS]; omega
theorem HR.r0 (h : HR ρ t N fl st σ0 σ1 m1) (hg : Ch pR0 m1 m2) (e11 : m2 0 80 11 = 0) (e1 : m2 0 80 1 = st') : HR ρ t 0 fl st' σ0 σ1 m2 := by
  refine h.gen hg (fun k => by simp [pR0, pT]) (by rw [hg.row (j := 81) (fun k => by simp [pR0, pT])]; exact h.1) e11 (by rw [hg.at (by simp [pR0, pT])]; exact h.2.2.1.2.1) e1 (by rw [hg.at (by simp [pR0, pT])]; exact h.2.2.2.2.1) (fun m x y z => ?_)
  rw [hg.at (by simp [pR0, pT])] at z
  have := h.2.2.2.2.2 m x y z
  unfold LkY at *
  rw [hg.at (by simp [pR0, pT]), hg.at (by simp [pR0, pT]), hg.at (by simp [pR0, pT]), hg.row (j := 93) (fun k => by simp [pR0, pT])]
  exact this
theorem Tpe.nil {t : Int → Int} {N : Int} (_ : Tpe t N) : Tpe t 0 := ⟨⟨Int.le_refl _, by decide⟩, fun i a b => by omega⟩
theorem b_row (hS : LSt B mi n mr) (hB : B ≤ B') {c : Int} : Both 20 mt_X11_row [vR (some (0, 0)), vI c] mt_X12_row [vR (some (0, 80)), vI c] B' mi n mr := by
  obtain ⟨G, g, s, i0, i1, ρ, t, N, fl, st, σ0, σ1, hC, hR, hP⟩ := hS
  intro Q1 hQ
  have hN := hC.2.2.1.2.1
  have ht := hC.2.2.1.1
  have hT := hP.2.1
  have hPP : HP B' ρ t 0 σ0 σ1 := ⟨hP.1.mono hB, hT.nil, fun τ z => (hP.2.2.1 τ z).mono hB, fun τ z => (hP.2.2.2 τ z).mono hB⟩
  have g0 : Cg pFd mi (up mi 0 0 1 0) := Cg.rf.up (by simp [pFd])
  have hC0 := hC.tap g0 ((up_j (by decide)).trans ht) up_at
  have hR0 : HR ρ t N fl st σ0 σ1 (up mi 0 0 1 0) := hR.cg g0 (fun b k hb => by simp [pFd]; omega)
  have sc0 : ∀ v, Scr mi (up (up mi 0 0 1 0) 0 0 3 v) := fun v => (Scr.cg g0 sc_pFd).tr (Scr.rf v)
  have scR : ∀ k, pR0 110 k = false ∧ pR0 111 k = false := fun k => by simp [pR0, pT]
  refine u_crow hC.lay hC.now hC.lt hC.rep hP.1 (by rw [hN]; exact hT.1.1) (by rw [hN]; exact hT.1.2) (fun hn => ?_) (fun x1 x2 x3 => ?_) (fun x1 x2 x3 x4 m1 g1 eN e3 e60 e70 hR1 => ?_)
  · refine hQ _ _ n mr (sc0 _) (fun Q2 hf => ?_)
    have hC1 := hC0.rf (-1)
    have hR1 := hR0.rf (-1)
    have h11 := hR1.2.2.1.1
    obtain ⟨e81, -⟩ := id hR1
    subst e81
    exact t_row hC1.lay hP.1.1 (by rw [h11]; exact hT.1.1) (by rw [h11]; exact hT.1.2) (fun _ m2 g2 e11 e1 => hf m2 n mr ((sc0 _).tr (Scr.ch (P := pR0) g2 scR)) (LSt.mk (hC1.ch (p := pR0) g2 hi_pR0) (hR1.r0 g2 e11 e1) hPP)) (fun a b => absurd ⟨a, b⟩ hn) (fun a b => absurd ⟨a, b⟩ hn)
  · refine hQ _ _ n mr (sc0 _) (fun Q2 hf => ?_)
    have hC1 := hC0.rf (-6)
    have hR1 := hR0.rf (-6)
    have h11 := hR1.2.2.1.1
    obtain ⟨e81, -⟩ := id hR1
    subst e81
    exact t_row hC1.lay hP.1.1 (by rw [h11]; exact hT.1.1) (by rw [h11]; exact hT.1.2) (fun hz => absurd ⟨x1, x2⟩ hz) (fun _ _ _ m2 g2 e11 e1 => hf m2 n mr ((sc0 _).tr (Scr.ch (P := pR0) g2 scR)) (LSt.mk (hC1.ch (p := pR0) g2 hi_pR0) (hR1.r0 g2 e11 e1) hPP)) (fun _ _ z1 z2 => by exfalso; omega)
  · refine hQ _ m1 n mr (Scr.all (g := g) g1 al_pRw) (fun Q2 hf => ?_)
    have hI : Inv B (rowF t c ρ N.toNat).1 := rowF_Inv hP.1 x1 _ (by have := hT.1; omega)
    rw [ht, hN] at hR1
    have hC1 : HC G g s i0 i1 (rowF t c ρ N.toNat).1 t 0 fl 0 σ0 σ1 m1 n mr := hC.mv g1 al_pRw Cr.rf hR1 (hC.2.1.2.1.cg g1 (fun a b k z => by simp [pRw, pFl, pSt, pJ] at z; omega)) (hC.2.1.2.2.cg g1 (fun a b k z => by simp [pRw, pFl, pSt, pJ] at z; omega)) eN (by rw [g1.at (by simp [pRw, pFl, pSt, pJ])]; exact hC.2.2.1.2.2.1) e3 (Or.inl e60) ⟨Or.inl e70, fun z => absurd e70 z⟩
    have hR1 := hR.all (g := g) g1 al_pRw
    have h11 := hR1.2.2.1.1
    have h86 := hR1.2.1
    obtain ⟨e81, -⟩ := id hR1
    subst e81
    refine t_row hC1.lay hP.1.1 (by rw [h11]; exact hT.1.1) (by rw [h11]; exact hT.1.2) (fun hz => absurd ⟨x1, x2⟩ hz) (fun _ _ z => by exfalso; omega) (fun _ _ _ _ m2 g2 e11 e81 e33 e1 => ?_)
    have g2 : Ch pR1 m1 m2 := g2
    rw [h86, h11] at e81
    rw [h86, h11, ← ht, ← hN]
    refine hf m2 n mr ((Scr.all (g := g) g1 al_pRw).tr (Scr.ch g2 (fun k => by simp [pR1, pL]))) (LSt.mk (hC1.ch g2 hi_pR1) ?_ ⟨hI.mono hB, hT.nil, fun τ z => (hP.2.2.1 τ z).mono hB, fun τ z => (hP.2.2.2 τ z).mono hB⟩)
    refine hR1.gen g2 (fun k => by simp [pR1, pL]) e81 e11 (by rw [g2.at (by simp [pR1, pL])]; exact hR1.2.2.1.2.1) e1 (by rw [g2.at (by simp [pR1, pL])]; exact hR1.2.2.2.2.1) (fun m x y z => ?_)
    rcases e33 with w | ⟨w1, w2⟩
    · omega
    · rw [← e81, w2]
      have := hR1.2.2.2.2.2 m x y (by omega)
      unfold LkY at *
      rw [g2.at (by simp [pR1, pL]), g2.at (by simp [pR1, pL]), g2.at (by simp [pR1, pL]), g2.row (j := 93) (fun k => by simp [pR1, pL])]
      exact this
end OPC
