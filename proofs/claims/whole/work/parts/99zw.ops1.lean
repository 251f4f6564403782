/-! the law: calls that change no row -/
theorem hi_p0 : ∀ j k, p0 j k = true → 80 ≤ j := fun j k h => by simp [p0] at h; omega
theorem hi_pT : ∀ j k, pT j k = true → 80 ≤ j := fun j k h => by simp [pT] at h; omega
theorem hi_pX : ∀ j k, pX j k = true → 80 ≤ j := fun j k h => by simp [pX] at h; omega
theorem qk_p0 : qOk p0 := ⟨fun k => by simp [p0], by simp [p0], by simp [p0], by simp [p0]⟩
theorem qk_pT : qOk pT := ⟨fun k => by simp [pT], by simp [pT], by simp [pT], by simp [pT]⟩
theorem qk_pX : qOk pX := ⟨fun k => by simp [pX], by simp [pX], by simp [pX], by simp [pX]⟩
theorem sc_p0 : ∀ k, p0 110 k = false ∧ p0 111 k = false := fun k => by simp [p0]
theorem sc_pT : ∀ k, pT 110 k = false ∧ pT 111 k = false := fun k => by simp [pT]
theorem sc_pX : ∀ k, pX 110 k = false ∧ pX 111 k = false := fun k => by simp [pX]
section OPA
variable {G g n : Nat} {s i0 i1 : Option Nat} {ρ ρ' t : Int → Int} {N fl st st' B B' : Int} {σ0 σ1 : Option (Int → Int)} {mi m1 : MI} {mr r1 : MR}
theorem HR.q0 (h : HR ρ t N fl st σ0 σ1 mi) (hg : Ch p0 mi m1) : HR ρ t N fl st σ0 σ1 m1 := h.ask hg qk_p0 (fun k => by simp [p0]) (by simp [p0]) (by rw [hg.at (by simp [p0])]; exact h.2.2.1.2.2)
theorem HR.qT (h : HR ρ t N fl st σ0 σ1 mi) (hg : Ch pT mi m1) (e1 : m1 0 80 1 = st') : HR ρ t N fl st' σ0 σ1 m1 := h.ask hg qk_pT (fun k => by simp [pT]) (by simp [pT]) e1
theorem HR.qX (h : HR ρ t N fl st σ0 σ1 mi) (hg : Ch pX mi m1) : HR ρ t N fl st σ0 σ1 m1 := h.ask hg qk_pX (fun k => by simp [pX]) (by simp [pX]) (by rw [hg.at (by simp [pX])]; exact h.2.2.1.2.2)
theorem Scr.all {P : Nat → Nat → Int → Bool} (hg : Cg P mi m1) (hP : ∀ a b k, P a b k = true → pAll g a b = true) : Scr mi m1 := Scr.cg hg (fun k => ⟨by
    cases hb : P 0 110 k with
    | false => rfl
    | true => have := hP 0 110 k hb; simp [pAll, rlS] at this, by
    cases hb : P 0 111 k with
    | false => rfl
    | true => have := hP 0 111 k hb; simp [pAll, rlS] at this⟩)
theorem HR.all {P : Nat → Nat → Int → Bool} (h : HR ρ t N fl st σ0 σ1 mi) (hg : Cg P mi m1) (hP : ∀ a b k, P a b k = true → pAll g a b = true) : HR ρ t N fl st σ0 σ1 m1 := h.cg hg (fun b k hb => by
    cases hz : P 0 b k with
    | false => rfl
    | true => have := pAll_hi (hP 0 b k hz); omega)
theorem LSt.mk (h1 : HC G g s i0 i1 ρ t N fl st σ0 σ1 mi n mr) (h2 : HR ρ t N fl st σ0 σ1 mi) (h3 : HP B ρ t N σ0 σ1) : LSt B mi n mr := ⟨G, g, s, i0, i1, ρ, t, N, fl, st, σ0, σ1, h1, h2, h3⟩
/-- a call that answers the same and changes nothing of the class's -/
theorem b_query {M1 M2 : MT} {a1 a2 : List V} (hS : LSt B mi n mr) (hB : B ≤ B') (h : ∀ (G g : Nat) (s i0 i1 : Option Nat) (ρ t : Int → Int) (N fl st : Int) (σ0 σ1 : Option (Int → Int)), HC G g s i0 i1 ρ t N fl st σ0 σ1 mi n mr → HR ρ t N fl st σ0 σ1 mi → HP B ρ t N σ0 σ1 → ∃ x, (∀ Q : V → MI → Nat → MR → Prop, Q (vI x) mi n mr → Tx 20 M1 a1 mi n mr Q) ∧ ∀ Q : V → MI → Nat → MR → Prop, (∀ m', Ch p0 mi m' → Q (vI x) m' n mr) → Tx 20 M2 a2 mi n mr Q) : Both 20 M1 a1 M2 a2 B' mi n mr := by
  obtain ⟨G, g, s, i0, i1, ρ, t, N, fl, st, σ0, σ1, hC, hR, hP⟩ := hS
  obtain ⟨x, h1, h2⟩ := h G g s i0 i1 ρ t N fl st σ0 σ1 hC hR hP
  intro Q1 hQ
  refine h1 _ (hQ x mi n mr ⟨rfl, rfl⟩ (fun Q2 hf => ?_))
  refine h2 _ (fun m2 g2 => ?_)
  exact hf m2 n mr (Scr.ch g2 sc_p0) (LSt.mk (hC.ch g2 hi_p0) (hR.q0 g2) (hP.mono hB))
theorem b_status (hS : LSt B mi n mr) (hB : B ≤ B') : Both 20 mt_X11_status [vR (some (0, 0))] mt_X12_status [vR (some (0, 80))] B' mi n mr := b_query hS hB (fun G g s i0 i1 ρ t N fl st σ0 σ1 hC hR hP => ⟨mi 0 0 3, fun Q h => u_cstatus h, fun Q h => t_status (fun m' g => by
  rw [hR.2.2.1.2.2, ← hC.2.2.1.2.2.2]; exact h m' g)⟩)
theorem b_fault (hS : LSt B mi n mr) (hB : B ≤ B') : Both 20 mt_X11_fault [vR (some (0, 0))] mt_X12_fault [vR (some (0, 80))] B' mi n mr := b_query hS hB (fun G g s i0 i1 ρ t N fl st σ0 σ1 hC hR hP => ⟨mi 0 0 2, fun Q h => u_cfault h, fun Q h => t_fault (fun m' g => by
  rw [hR.2.2.1.2.1, ← hC.2.2.1.2.2.1]; exact h m' g)⟩)
theorem b_cell (hS : LSt B mi n mr) (hB : B ≤ B') {c w : Int} : Both 20 mt_X11_cell [vR (some (0, 0)), vI c, vI w] mt_X12_cell [vR (some (0, 80)), vI c, vI w] B' mi n mr := b_query hS hB (fun G g s i0 i1 ρ t N fl st σ0 σ1 hC hR hP => by
  obtain ⟨rfl, -⟩ := id hR
  exact ⟨_, fun Q h => u_ccell hC.lay hC.now hC.lt hC.rep hP.1 h, fun Q h => t_cell hC.lay hP.1.1 h⟩)
theorem b_seen (hS : LSt B mi n mr) (hB : B ≤ B') {c w : Int} : Both 20 mt_X11_seen [vR (some (0, 0)), vI c, vI w] mt_X12_seen [vR (some (0, 80)), vI c, vI w] B' mi n mr := b_query hS hB (fun G g s i0 i1 ρ t N fl st σ0 σ1 hC hR hP => by
  obtain ⟨rfl, -⟩ := id hR
  have h16 := hP.1.1.2.2.2.2.2.1
  exact ⟨_, fun Q h => u_cseen hC.lay hC.now hC.lt hC.rep hP.1 h, fun Q h => t_seen hC.lay h16.1 h16.2 h⟩)
theorem b_all (hS : LSt B mi n mr) (hB : B ≤ B') {w : Int} : Both 20 mt_X11_all [vR (some (0, 0)), vI w] mt_X12_all [vR (some (0, 80)), vI w] B' mi n mr := b_query hS hB (fun G g s i0 i1 ρ t N fl st σ0 σ1 hC hR hP => by
  obtain ⟨rfl, -⟩ := id hR
  exact ⟨_, fun Q h => u_call hC.lay hC.now hC.lt hC.rep h, fun Q h => t_all hC.lay h⟩)
theorem b_out (hS : LSt B mi n mr) (hB : B ≤ B') {i : Int} : Both 20 mt_X11_out [vR (some (0, 0)), vI i] mt_X12_out [vR (some (0, 80)), vI i] B' mi n mr := b_query hS hB (fun G g s i0 i1 ρ t N fl st σ0 σ1 hC hR hP => by
  obtain ⟨rfl, -⟩ := id hR
  have h18 := hP.1.1.2.2.2.2.2.2.2.1
  exact ⟨_, fun Q h => u_cout hC.lay hC.now hC.lt hC.rep hP.1 h, fun Q h => t_out hC.lay h18.1 h18.2.1 h⟩)
theorem b_bears (hS : LSt B mi n mr) (hB : B ≤ B') {j : Int} : Both 20 mt_X11_bears [vR (some (0, 0)), vI j] mt_X12_bears [vR (some (0, 80)), vI j] B' mi n mr := b_query hS hB (fun G g s i0 i1 ρ t N fl st σ0 σ1 hC hR hP => by
  obtain ⟨rfl, -⟩ := id hR
  exact ⟨_, fun Q h => u_cbears hC.lay hC.now hC.lt hC.rep hP.1 h, fun Q h => t_bears hC.lay hP.1.1 h⟩)
theorem b_spread (hS : LSt B mi n mr) (hB : B ≤ B') {c w : Int} : Both 20 mt_X11_spread [vR (some (0, 0)), vI c, vI w] mt_X12_spread [vR (some (0, 80)), vI c, vI w] B' mi n mr := b_query hS hB (fun G g s i0 i1 ρ t N fl st σ0 σ1 hC hR hP => by
  obtain ⟨rfl, -⟩ := id hR
  exact ⟨_, fun Q h => u_cspread hC.lay hC.now hC.lt hC.rep hP.1 h, fun Q h => t_spread hC.lay hP.1.1 h⟩)
theorem hi_pQ0 : ∀ a b k, pQ 0 a b k = true → 50 ≤ b ∧ b ≤ 56 := fun a b k h => by simp [pQ] at h; omega
theorem al_pQ0 : ∀ a b k, pQ 0 a b k = true → pAll g a b = true := fun a b k h => by have := hi_pQ0 a b k h; simp [pAll]; omega
theorem b_holds (hS : LSt B mi n mr) (hB : B ≤ B') {l : Int} : Both 20 mt_X11_holds [vR (some (0, 0)), vI l] mt_X12_holds [vR (some (0, 80)), vI l] B' mi n mr := by
  obtain ⟨G, g, s, i0, i1, ρ, t, N, fl, st, σ0, σ1, hC, hR, hP⟩ := hS
  intro Q1 hQ
  refine u_cholds hC.lay hC.now hC.lt hC.rep hP.1 (fun m1 r1 g1 c1 => ?_)
  refine hQ _ m1 n r1 (Scr.all (g := g) g1 al_pQ0) (fun Q2 hf => ?_)
  have hC1 := hC.ask g1 hi_pQ0 c1
  have hR1 := hR.all (g := g) g1 al_pQ0
  obtain ⟨e81, -⟩ := id hR1
  subst e81
  exact t_holds hC1.lay hP.1.1 (fun m2 g2 => hf m2 n r1 ((Scr.all (g := g) g1 al_pQ0).tr (Scr.ch g2 sc_pX)) (LSt.mk (hC1.ch g2 hi_pX) (hR1.qX g2) (hP.mono hB)))
theorem b_asked (hS : LSt B mi n mr) (hB : B ≤ B') {l : Int} : Both 20 mt_X11_asked [vR (some (0, 0)), vI l] mt_X12_asked [vR (some (0, 80)), vI l] B' mi n mr := by
  obtain ⟨G, g, s, i0, i1, ρ, t, N, fl, st, σ0, σ1, hC, hR, hP⟩ := hS
  intro Q1 hQ
  refine u_casked hC.lay hC.now hC.lt hC.rep hP.1 (fun hn => ?_) (fun h1 h2 m1 r1 m g1 c1 hm => ?_)
  · refine hQ _ mi n mr ⟨rfl, rfl⟩ (fun Q2 hf => ?_)
    obtain ⟨e81, -⟩ := id hR
    subst e81
    exact t_asked hC.lay hP.1.1 (fun _ m2 g2 => hf m2 n mr (Scr.ch g2 sc_pX) (LSt.mk (hC.ch g2 hi_pX) (hR.qX g2) (hP.mono hB))) (fun a b => absurd ⟨a, b⟩ hn)
  · refine hQ _ m1 n r1 (Scr.all (g := g) g1 al_pQ0) (fun Q2 hf => ?_)
    have hC1 := hC.ask g1 hi_pQ0 c1
    have hR1 := hR.all (g := g) g1 al_pQ0
    obtain ⟨e81, -⟩ := id hR1
    subst e81
    refine t_asked hC1.lay hP.1.1 (fun hn => absurd ⟨h1, h2⟩ hn) (fun _ _ m2 m' g2 hm' => ?_)
    have : m' = m := Bm.eq hm' hm (fun _ _ _ => Iff.rfl)
    subst this
    exact hf m2 n r1 ((Scr.all (g := g) g1 al_pQ0).tr (Scr.ch g2 sc_pX)) (LSt.mk (hC1.ch g2 hi_pX) (hR1.qX g2) (hP.mono hB))
theorem b_way (hS : LSt B mi n mr) (hB : B ≤ B') {h i : Int} : Both 20 mt_X11_way [vR (some (0, 0)), vI h, vI i] mt_X12_way [vR (some (0, 80)), vI h, vI i] B' mi n mr := by
  obtain ⟨G, g, s, i0, i1, ρ, t, N, fl, st, σ0, σ1, hC, hR, hP⟩ := hS
  intro Q1 hQ
  refine u_cway hC.lay hC.now hC.lt hC.rep hP.1 (fun hn => ?_) (fun h1 h2 m1 r1 g1 c1 => ?_)
  · refine hQ _ mi n mr ⟨rfl, rfl⟩ (fun Q2 hf => ?_)
    obtain ⟨e81, -⟩ := id hR
    subst e81
    exact t_way hC.lay hP.1.1.1 (fun _ m2 g2 => hf m2 n mr (Scr.ch g2 sc_pX) (LSt.mk (hC.ch g2 hi_pX) (hR.qX g2) (hP.mono hB))) (fun a b => absurd ⟨a, b⟩ hn)
  · refine hQ _ m1 n r1 (Scr.all (g := g) g1 al_pQ0) (fun Q2 hf => ?_)
    have hC1 := hC.ask g1 hi_pQ0 c1
    have hR1 := hR.all (g := g) g1 al_pQ0
    obtain ⟨e81, -⟩ := id hR1
    subst e81
    exact t_way hC1.lay hP.1.1.1 (fun hn => absurd ⟨h1, h2⟩ hn) (fun _ _ m2 g2 => hf m2 n r1 ((Scr.all (g := g) g1 al_pQ0).tr (Scr.ch g2 sc_pX)) (LSt.mk (hC1.ch g2 hi_pX) (hR1.qX g2) (hP.mono hB)))
end OPA
