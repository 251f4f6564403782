/-! the law: again, image, back -/
theorem hi_pN : ∀ j k, pN j k = true → 80 ≤ j := fun j k h => by simp [pN] at h; omega
theorem qk_pN : qOk pN := ⟨fun k => by simp [pN], by simp [pN], by simp [pN], by simp [pN]⟩
theorem sc_pN : ∀ k, pN 110 k = false ∧ pN 111 k = false := fun k => by simp [pN]
theorem hi_pI : ∀ j k, pI j k = true → 80 ≤ j := fun j k h => by simp [pI] at h; omega
theorem sc_pI : ∀ k, pI 110 k = false ∧ pI 111 k = false := fun k => by simp [pI]
theorem agF_Inv2 {B s : Int} {ρ : Int → Int} {q : (Int → Int) × Int} (hI : Inv B ρ) (hs0 : 0 ≤ s) (hs1 : s < ρ 0) (h20 : ρ 20 < s) (hq : agF (ag0 ρ s) (s + 1) (ρ 0 - s - 1).toNat = some q) : Inv B q.1 := by
  obtain ⟨hI0, hW, hC, hB⟩ := id hI
  have h17p : 0 < ρ 17 := by
    have := hW.2.2.2.1
    have := hI0.2.2.2.2.2.2.1.1
    omega
  have hA0 := ag0_Inv (s := s) hI0.1 hW hI0.2.2.2.1 hC.2.2.2.2.2.2.2.2.2 hs0 h20
  have hA := (agF_Inv hA0 hs0 h17p hI0.2.2.2.2.2.2.2.2.2 _ q (by omega) hq).1
  exact hI.cong hA.1 hA.2.1 hA.2.2.1 hA.2.2.2.2.2.2 (fun k a b c z => hA.2.2.2.2.2.1 k a b c (by omega))
theorem pAh_x {x h a b : Nat} {k : Int} (hx : x < 4) (hh : h < 4) (hne : x ≠ h) (z : rlS x a b = true) : pAh h a b k = false := by
  simp [rlS] at z
  simp [pAh, pAg, pSt, pJ, pW5, pQ, rlS]
  omega
theorem pAh_hi {h b : Nat} {k : Int} (hb : 71 ≤ b) : pAh h 0 b k = false := by
  simp [pAh, pAg, pSt, pJ, pW5, pQ, rlS]
  omega
theorem pAh_m {h a b : Nat} {k : Int} (h1 : 57 ≤ b) (h2 : b ≤ 68) (hk : ¬ (a = 0 ∧ b = 60 ∧ k = 3)) : pAh h a b k = false := by
  simp [pAh, pAg, pSt, pJ, pW5, pQ, rlS]
  omega
section OPD
variable {G g n : Nat} {s i0 i1 : Option Nat} {ρ ρ' t t' : Int → Int} {N N' fl fl' st st' B B' : Int} {σ0 σ1 : Option (Int → Int)} {mi m1 m2 : MI} {mr r1 : MR}
theorem b_again (hS : LSt B mi n mr) (hB : B ≤ B') {x : Int} : Both 20 mt_X11_again [vR (some (0, 0)), vI x] mt_X12_again [vR (some (0, 80)), vI x] B' mi n mr := by
  obtain ⟨G, g, s, i0, i1, ρ, t, N, fl, st, σ0, σ1, hC, hR, hP⟩ := hS
  intro Q1 hQ
  have hg4 := hC.g4
  have hgl := hC.lt
  have scA : ∀ h m1, Cg (pAh h) mi m1 → Scr mi m1 := fun h m1 g1 => Scr.cg g1 (fun k => ⟨pAh_hi (by decide), pAh_hi (by decide)⟩)
  have hrA : ∀ h m1, Cg (pAh h) mi m1 → HR ρ t N fl st σ0 σ1 m1 := fun h m1 g1 => hR.cg g1 (fun b k hb => pAh_hi (by omega))
  refine u_cagain hC.lay hC.own hC.1.2.2.1 hC.1.2.2.2 hC.rep hP.1 hC.2.1.2.1 hC.2.1.2.2 (fun hn => ?_) (fun x1 x2 x3 => ?_) (fun x1 x2 x3 x4 hnone m1 r1 G1 n1 h1 l1 en o1 z1 g1 e3 e60 e70 e50 => ?_) (fun x1 x2 x3 x4 q hq m1 r1 G1 n1 h1 l1 en o1 z1 g1 e3 e60 e70 hR1 t1 t2 => ?_)
  · refine hQ _ _ n mr (Scr.rf _) (fun Q2 hf => ?_)
    have hC1 := hC.rf (-1)
    have hR1 := hR.rf (-1)
    obtain ⟨e81, -⟩ := id hR1
    subst e81
    exact t_again hC1.lay hP.1 (fun _ m2 g2 e1 => hf m2 n mr ((Scr.rf _).tr (Scr.ch g2 sc_pT)) (LSt.mk (hC1.ch g2 hi_pT) (hR1.qT g2 e1) (hP.mono hB))) (fun a b => absurd ⟨a, b⟩ hn) (fun a b => absurd ⟨a, b⟩ hn) (fun a b => absurd ⟨a, b⟩ hn)
  · refine hQ _ _ n mr (Scr.rf _) (fun Q2 hf => ?_)
    have hC1 := hC.rf (-3)
    have hR1 := hR.rf (-3)
    obtain ⟨e81, -⟩ := id hR1
    subst e81
    exact t_again hC1.lay hP.1 (fun hz => absurd ⟨x1, x2⟩ hz) (fun _ _ _ m2 g2 e1 => hf m2 n mr ((Scr.rf _).tr (Scr.ch g2 sc_pT)) (LSt.mk (hC1.ch g2 hi_pT) (hR1.qT g2 e1) (hP.mono hB))) (fun _ _ a b => by exfalso; omega) (fun _ _ a b => by exfalso; omega)
  · refine hQ _ m1 n1 r1 (scA h1 m1 g1) (fun Q2 hf => ?_)
    have o4 := o1.g4
    have hh := o1.2.2.2.2.2.1 h1 rfl
    have hgl1 := o1.2.2.2.2.1
    have ex : ∀ x, x < 4 → x ≠ h1 → ∀ a b, rlS x a b = true → m1 a b = mi a b := fun x hx hne a b z => g1.row (fun k => pAh_x hx (by omega) hne z)
    have em : ∀ a b, 57 ≤ b → b ≤ 68 → m1 a b = mi a b := fun a b z1 z2 => funext fun k => by
      by_cases e : a = 0 ∧ b = 60 ∧ k = 3
      · obtain ⟨rfl, rfl, rfl⟩ := e; exact e60
      · exact g1.at (pAh_m z1 z2 e)
    have hC1 : HC G1 g (some h1) i0 i1 ρ t N fl (-3) σ0 σ1 m1 n1 r1 := by
      obtain ⟨-, ⟨b1, b2, b3⟩, ⟨y1, y2, y3, y4⟩, ⟨c1, c2⟩, k1, k2, k3⟩ := hC
      refine ⟨⟨l1, o1, en, z1⟩, ⟨b1.mv (ex g (by omega) (fun z => hh.2 z.symm)), b2.mv (fun b u v => ex g (by omega) (fun z => hh.2 z.symm) g b (by simp [rlS]; omega)), b3.mv (fun b u v => ex g (by omega) (fun z => hh.2 z.symm) (g + 10) b (by simp [rlS]; omega))⟩, ⟨?_, ?_, ?_, e3⟩, ⟨c1.mv (fun y hy => ex y (by have := (o1.2.2.2.2.2.2.1 y hy).1; omega) (fun z => (o1.2.2.2.2.2.2.1 y hy).2.2 (by rw [z]))), c2.mv (fun y hy => ex y (by have := (o1.2.2.2.2.2.2.2.1 y hy).1; omega) (fun z => (o1.2.2.2.2.2.2.2.1 y hy).2.2.1 (by rw [z])))⟩, k1.mvr em e50, ?_⟩
      · rw [g1.row (fun k => by simp [pAh, pAg, pSt, pJ, pW5, pQ, rlS])]; exact y1
      · rw [g1.at (by simp [pAh, pAg, pSt, pJ, pW5, pQ, rlS])]; exact y2
      · rw [g1.at (by simp [pAh, pAg, pSt, pJ, pW5, pQ, rlS])]; exact y3
      · unfold PpK
        rw [e70, g1.row (j := 73) (fun k => by simp [pAh, pAg, pSt, pJ, pW5, pQ, rlS])]
        exact ⟨k2, k3⟩
    have hR1 := hrA h1 m1 g1
    have k33 := hR1.2.2.2.2.2
    have sc1 := scA h1 m1 g1
    obtain ⟨e81, -⟩ := id hR1
    subst e81
    refine t_again hC1.lay hP.1 (fun hz => absurd ⟨x1, x2⟩ hz) (fun _ _ z => by exfalso; omega) (fun _ _ _ _ _ m2 g2 e81 e33 e1 => hf m2 n1 r1 (sc1.tr (Scr.ch g2 sc_pN)) (LSt.mk (hC1.ch g2 hi_pN) (hR1.ch g2 qk_pN e81 e1 (fun m u v z => ?_)) (hP.mono hB))) (fun _ _ _ _ q hq => by rw [hnone] at hq; cases hq)
    have := k33 m u v (by omega)
    unfold LkY at *
    rw [g2.at (by simp [pN]), g2.at (by simp [pN]), g2.at (by simp [pN]), g2.row (j := 93) (fun k => by simp [pN])]
    exact this
  · refine hQ _ m1 n1 r1 (scA h1 m1 g1) (fun Q2 hf => ?_)
    have o4 := o1.g4
    have hh := o1.2.2.2.2.1
    have ex : ∀ x, x < 4 → x ≠ h1 → ∀ a b, rlS x a b = true → m1 a b = mi a b := fun x hx hne a b z => g1.row (fun k => pAh_x hx (by omega) hne z)
    have hI := agF_Inv2 hP.1 x1 x2 x4 hq
    have hC1 : HC G1 h1 (some g) i0 i1 q.1 t N fl 0 σ0 σ1 m1 n1 r1 := by
      obtain ⟨-, -, ⟨y1, y2, y3, y4⟩, ⟨c1, c2⟩, k1, k2, k3⟩ := hC
      refine ⟨⟨l1, o1, en, z1⟩, ⟨hR1, t1, t2⟩, ⟨?_, ?_, ?_, e3⟩, ⟨c1.mv (fun y hy => ex y (by have := (o1.2.2.2.2.2.2.1 y hy).1; omega) (o1.2.2.2.2.2.2.1 y hy).2.1), c2.mv (fun y hy => ex y (by have := (o1.2.2.2.2.2.2.2.1 y hy).1; omega) (o1.2.2.2.2.2.2.2.1 y hy).2.1)⟩, Or.inl e60, Or.inl e70, fun z => absurd e70 z⟩
      · rw [g1.row (fun k => by simp [pAh, pAg, pSt, pJ, pW5, pQ, rlS])]; exact y1
      · rw [g1.at (by simp [pAh, pAg, pSt, pJ, pW5, pQ, rlS])]; exact y2
      · rw [g1.at (by simp [pAh, pAg, pSt, pJ, pW5, pQ, rlS])]; exact y3
    have hR1 := hrA h1 m1 g1
    have sc1 := scA h1 m1 g1
    obtain ⟨e81, -⟩ := id hR1
    subst e81
    refine t_again hC1.lay hP.1 (fun hz => absurd ⟨x1, x2⟩ hz) (fun _ _ z => by exfalso; omega) (fun _ _ _ _ hz => by rw [hz] at hq; cases hq) (fun _ _ _ _ q' hq' m2 g2 e81 e33 e1 => ?_)
    rw [hq] at hq'
    injection hq' with hq'
    subst hq'
    exact hf m2 n1 r1 (sc1.tr (Scr.ch g2 sc_pN)) (LSt.mk (hC1.ch g2 hi_pN) (hR1.fgt g2 qk_pN e81 e1 e33) (hP.row hB (hI.mono hB)))
theorem pIm_x {x h a b : Nat} {k : Int} (hx : x < 4) (hh : h < 4) (hne : x ≠ h) (z : rlS x a b = true) : pIm h a b k = false := by
  simp [rlS] at z
  simp [pIm, rlS]
  omega
theorem b_image (hS : LSt B mi n mr) (hB : B ≤ B') {k : Int} : Both 20 mt_X11_image [vR (some (0, 0)), vI k] mt_X12_image [vR (some (0, 80)), vI k] B' mi n mr := by
  obtain ⟨G, g, s, i0, i1, ρ, t, N, fl, st, σ0, σ1, hC, hR, hP⟩ := hS
  intro Q1 hQ
  have hg4 := hC.g4
  have hgl := hC.lt
  refine u_cimage hC.lay hC.own hC.1.2.2.1 hC.1.2.2.2 hC.rep hP.1 hC.2.1.2.1 hC.2.1.2.2 (fun hn => ?_) (fun x1 x2 m1 r1 G1 n1 h1 l1 en o1 z1 g1 e3 hR1 t1 t2 e50 => ?_)
  · refine hQ _ _ n mr (Scr.rf _) (fun Q2 hf => ?_)
    have hC1 := hC.rf (-1)
    have hR1 := hR.rf (-1)
    exact t_image hC1.lay (fun _ m2 g2 e1 => hf m2 n mr ((Scr.rf _).tr (Scr.ch g2 sc_pT)) (LSt.mk (hC1.ch g2 hi_pT) (hR1.qT g2 e1) (hP.mono hB))) (fun a b => absurd ⟨a, b⟩ hn)
  · have sc1 : Scr mi m1 := Scr.cg g1 (fun k => ⟨by simp [pIm, rlS], by simp [pIm, rlS]⟩)
    refine hQ _ m1 n1 r1 sc1 (fun Q2 hf => ?_)
    have o4 := o1.g4
    have hgl1 := o1.2.2.2.2.1
    have hh : h1 < G1 ∧ h1 ≠ g := by
      by_cases e : k = 0
      · have := o1.2.2.2.2.2.2.1 h1 (by rw [if_pos e])
        exact ⟨this.1, this.2.1⟩
      · have := o1.2.2.2.2.2.2.2.1 h1 (by rw [if_neg e])
        exact ⟨this.1, this.2.1⟩
    have ex : ∀ x, x < 4 → x ≠ h1 → ∀ a b, rlS x a b = true → m1 a b = mi a b := fun x hx hne a b z => g1.row (fun k => pIm_x hx (by omega) hne z)
    have hC1 : HC G1 g s (if k = 0 then some h1 else i0) (if k = 0 then i1 else some h1) ρ t N fl 0 (if k = 0 then some ρ else σ0) (if k = 0 then σ1 else some ρ) m1 n1 r1 := by
      obtain ⟨-, ⟨b1, b2, b3⟩, ⟨y1, y2, y3, y4⟩, ⟨c1, c2⟩, k1, k2, k3⟩ := hC
      refine ⟨⟨l1, o1, en, z1⟩, ⟨b1.mv (ex g (by omega) (fun z => hh.2 z.symm)), b2.mv (fun b u v => ex g (by omega) (fun z => hh.2 z.symm) g b (by simp [rlS]; omega)), b3.mv (fun b u v => ex g (by omega) (fun z => hh.2 z.symm) (g + 10) b (by simp [rlS]; omega))⟩, ⟨?_, ?_, ?_, e3⟩, ⟨?_, ?_⟩, k1.mvr (fun a b u v => g1.row (fun k => by simp [pIm, rlS]; omega)) (fun z => by rw [e50]; exact z), ?_⟩
      · rw [g1.row (fun k => by simp [pIm, rlS])]; exact y1
      · rw [g1.at (by simp [pIm, rlS])]; exact y2
      · rw [g1.at (by simp [pIm, rlS])]; exact y3
      · by_cases e : k = 0
        · rw [if_pos e, if_pos e]
          exact ⟨ρ, rfl, hR1, t1, t2⟩
        · rw [if_neg e, if_neg e]
          refine c1.mv (fun y hy => ?_)
          have a := o1.2.2.2.2.2.2.1 y (by rw [if_neg e]; exact hy)
          have b := o1.2.2.2.2.2.2.2.1 h1 (by rw [if_neg e])
          exact ex y (by omega) (fun z => b.2.2.2 (by rw [if_neg e, hy, z]))
      · by_cases e : k = 0
        · rw [if_pos e, if_pos e]
          refine c2.mv (fun y hy => ?_)
          have a := o1.2.2.2.2.2.2.2.1 y (by rw [if_pos e]; exact hy)
          exact ex y (by omega) (fun z => a.2.2.2 (by rw [if_pos e, z]))
        · rw [if_neg e, if_neg e]
          exact ⟨ρ, rfl, hR1, t1, t2⟩
      · unfold PpK
        rw [g1.row (j := 70) (fun k => by simp [pIm, rlS]), g1.row (j := 73) (fun k => by simp [pIm, rlS])]
        exact ⟨k2, k3⟩
    have hR1 : HR ρ t N fl st σ0 σ1 m1 := hR.cg g1 (fun b k hb => by simp [pIm, rlS]; omega)
    have k33 := hR1.2.2.2.2.2
    obtain ⟨e81, e86, ⟨e11, e16, -⟩, ⟨d0, d1⟩, e25, -⟩ := id hR1
    subst e81
    refine t_image hC1.lay (fun hz => absurd ⟨x1, x2⟩ hz) (fun _ _ m2 g2 e1 e83 e84 => ?_)
    refine hf m2 n1 r1 (sc1.tr (Scr.ch g2 sc_pI)) (LSt.mk (hC1.ch g2 hi_pI) ?_ ⟨hP.1.mono hB, hP.2.1, fun τ z => ?_, fun τ z => ?_⟩)
    · have e81 := g2.row (j := 81) (fun k => by simp [pI])
      refine ⟨e81, by rw [g2.row (j := 86) (fun k => by simp [pI])]; exact e86, ⟨by rw [g2.at (by simp [pI])]; exact e11, by rw [g2.at (by simp [pI])]; exact e16, e1⟩, ⟨?_, ?_⟩, by rw [g2.at (by simp [pI])]; exact e25, fun m u v z => ?_⟩
      · by_cases e : k = 0
        · rw [if_pos e]
          refine ⟨by rw [e84, e, ud_at]; decide, fun i a b => ?_⟩
          rw [e83, e]
          unfold cpF
          rw [if_pos (by omega)]
          exact congrArg _ (by omega)
        · rw [if_neg e]
          unfold RIm at d0 ⊢
          have f84 : m2 0 84 0 = m1 0 84 0 := by rw [e84, ud_ne (by omega)]
          have f83 : ∀ i, 0 ≤ i → i < 3886 → m2 0 83 (3886 * 0 + i) = m1 0 83 (3886 * 0 + i) := fun i a b => by
            rw [e83]
            unfold cpF
            rw [if_neg (by omega)]
          cases σ0 with
          | none => exact f84.trans d0
          | some τ => exact ⟨by rw [f84]; exact d0.1, fun i a b => (f83 i a b).trans (d0.2 i a b)⟩
      · by_cases e : k = 0
        · rw [if_pos e]
          unfold RIm at d1 ⊢
          have f84 : m2 0 84 1 = m1 0 84 1 := by rw [e84, ud_ne (by omega)]
          have f83 : ∀ i, 0 ≤ i → i < 3886 → m2 0 83 (3886 * 1 + i) = m1 0 83 (3886 * 1 + i) := fun i a b => by
            rw [e83]
            unfold cpF
            rw [if_neg (by omega)]
          cases σ1 with
          | none => exact f84.trans d1
          | some τ => exact ⟨by rw [f84]; exact d1.1, fun i a b => (f83 i a b).trans (d1.2 i a b)⟩
        · rw [if_neg e]
          have ek : k = 1 := by omega
          refine ⟨by rw [e84, ek, ud_at]; decide, fun i a b => ?_⟩
          rw [e83, ek]
          unfold cpF
          rw [if_pos (by omega)]
          exact congrArg _ (by omega)
      · rw [g2.at (by simp [pI])] at z
        have := k33 m u v z
        unfold LkY at *
        rw [g2.at (by simp [pI]), g2.at (by simp [pI]), g2.at (by simp [pI]), g2.row (j := 93) (fun k => by simp [pI])]
        exact this
    · split at z
      · injection z with z
        rw [← z]; exact hP.1.mono hB
      · exact (hP.2.2.1 τ z).mono hB
    · split at z
      · exact (hP.2.2.2 τ z).mono hB
      · injection z with z
        rw [← z]; exact hP.1.mono hB
theorem al_pBk : ∀ a b k, pBk g a b k = true → pAll g a b = true := fun a b k h => by simp [pBk, rlS] at h; simp [pAll, rlS]; omega
theorem b_back (hS : LSt B mi n mr) (hB : B ≤ B') {k : Int} : Both 20 mt_X11_back [vR (some (0, 0)), vI k] mt_X12_back [vR (some (0, 80)), vI k] B' mi n mr := by
  obtain ⟨G, g, s, i0, i1, ρ, t, N, fl, st, σ0, σ1, hC, hR, hP⟩ := hS
  intro Q1 hQ
  have hI : ImS mi (imK k i0 i1) (if k = 0 then σ0 else σ1) := by
    unfold imK
    by_cases e : k = 0
    · rw [if_pos e, if_pos e]; exact hC.2.2.2.1.1
    · rw [if_neg e, if_neg e]; exact hC.2.2.2.1.2
  have hV : ∀ τ, (if k = 0 then σ0 else σ1) = some τ → Inv B τ := fun τ z => by
    split at z
    · exact hP.2.2.1 τ z
    · exact hP.2.2.2 τ z
  refine u_cback (σ := (if k = 0 then σ0 else σ1).getD ρ) (B := B) hC.lay hC.own (fun h hh => ?_) (fun hn => ?_) (fun x1 x2 hz => ?_) (fun x1 x2 hz m1 g1 e3 e60 e70 hR1 t1 t2 => ?_)
  · rw [hh] at hI
    obtain ⟨τ, a1, a2, a3, a4⟩ := hI
    rw [a1]
    exact ⟨a2, a3, a4, hV τ a1⟩
  · refine hQ _ _ n mr (Scr.rf _) (fun Q2 hf => ?_)
    have hC1 := hC.rf (-1)
    have hR1 := hR.rf (-1)
    exact t_back hC1.lay (fun _ m2 g2 e1 => hf m2 n mr ((Scr.rf _).tr (Scr.ch g2 sc_pT)) (LSt.mk (hC1.ch g2 hi_pT) (hR1.qT g2 e1) (hP.mono hB))) (fun a b => absurd ⟨a, b⟩ hn) (fun a b => absurd ⟨a, b⟩ hn)
  · refine hQ _ _ n mr (Scr.rf _) (fun Q2 hf => ?_)
    have hC1 := hC.rf (-2)
    have hR1 := hR.rf (-2)
    have h84 : up mi 0 0 3 (-2) 0 84 k = 0 := by
      rw [hz] at hI
      have hI : (if k = 0 then σ0 else σ1) = none := hI
      by_cases e : k = 0
      · rw [if_pos e] at hI
        have := hR1.2.2.2.1.1
        rw [hI] at this
        rw [e]; exact this
      · rw [if_neg e] at hI
        have := hR1.2.2.2.1.2
        rw [hI] at this
        rw [show k = 1 by omega]; exact this
    exact t_back hC1.lay (fun hz => absurd ⟨x1, x2⟩ hz) (fun _ _ _ m2 g2 e1 => hf m2 n mr ((Scr.rf _).tr (Scr.ch g2 sc_pT)) (LSt.mk (hC1.ch g2 hi_pT) (hR1.qT g2 e1) (hP.mono hB))) (fun _ _ hz => absurd h84 hz)
  · refine hQ _ m1 n mr (Scr.all (g := g) g1 al_pBk) (fun Q2 hf => ?_)
    obtain ⟨τ, eτ⟩ : ∃ τ, (if k = 0 then σ0 else σ1) = some τ := by
      cases hx : imK k i0 i1 with
      | none => exact absurd hx hz
      | some h =>
        rw [hx] at hI
        obtain ⟨τ, a, -⟩ := hI
        exact ⟨τ, a⟩
    rw [eτ] at hR1
    have hR1 : Rep (-1) m1 g τ := hR1
    have hτ := hV τ eτ
    have hRR := hR.all (g := g) g1 al_pBk
    have hk2 : m1 0 84 k ≠ 0 ∧ ∀ i, 0 ≤ i → i < 3886 → m1 0 83 (3886 * k + i) = τ i := by
      by_cases e : k = 0
      · rw [if_pos e] at eτ
        have := hRR.2.2.2.1.1
        rw [eτ] at this
        rw [e]; exact this
      · rw [if_neg e] at eτ
        have := hRR.2.2.2.1.2
        rw [eτ] at this
        rw [show k = 1 by omega]; exact this
    have hL1 : Lay G mr := hC.lay
    refine t_back hL1 (fun hz => absurd ⟨x1, x2⟩ hz) (fun _ _ hz => absurd hz hk2.1) (fun _ _ _ m2 g2 e1 e33 e81 => ?_)
    have hb : bdEq τ (m2 0 81) := fun i a b => by
      rw [e81]
      unfold cpF
      rw [if_pos (by omega), ← hk2.2 i a b]
      exact congrArg _ (by omega)
    have hC1 : HC G g s i0 i1 (m2 0 81) t N fl 0 σ0 σ1 m1 n mr := hC.mv g1 al_pBk Cr.rf (hR1.bd hτ hb) t1 t2 (by rw [g1.at (by simp [pBk, rlS])]; exact hC.2.2.1.2.1) (by rw [g1.at (by simp [pBk, rlS])]; exact hC.2.2.1.2.2.1) e3 (Or.inl e60) ⟨Or.inl e70, fun z => absurd e70 z⟩
    exact hf m2 n mr ((Scr.all (g := g) g1 al_pBk).tr (Scr.ch g2 sc_pL)) (LSt.mk (hC1.ch g2 hi_pL) (hRR.fgt g2 qk_pL rfl e1 e33) (hP.row hB ((hτ.bd hb).mono hB)))
end OPD
