/-! the law: calls that change cells and settings -/
theorem bAnd_low (a : Int) {m : Nat} (hm : m < 2147483648) : 0 ≤ bAnd a (m : Int) ∧ bAnd a (m : Int) ≤ m := by
  have h2 : bAnd a (m : Int) = ((BitVec.ofInt 32 a) &&& (BitVec.ofInt 32 (m : Int))).toInt := rfl
  have h3 : (BitVec.ofInt 32 (m : Int)).toNat = m := by rw [BitVec.ofInt_natCast, BitVec.toNat_ofNat, Nat.mod_eq_of_lt (by omega)]
  have h4 : ((BitVec.ofInt 32 a) &&& (BitVec.ofInt 32 (m : Int))).toNat ≤ m := by
    rw [BitVec.toNat_and, h3]; exact Nat.and_le_right
  rw [h2, BitVec.toInt_eq_toNat_of_lt (by omega)]
  omega
theorem MkK.mvr {mi m1 : MI} {mr r1 : MR} {ρ : Int → Int} (h : MkK mi mr ρ) (e : ∀ a b, 57 ≤ b → b ≤ 68 → m1 a b = mi a b) (hr : mr 2 50 0 = some (0, 63) → r1 2 50 0 = some (0, 63)) : MkK m1 r1 ρ := by
  unfold MkK at *
  rw [e 0 60 (by omega) (by omega)]
  rcases h with w | ⟨a1, a2, a3, a4, a5⟩
  · exact Or.inl w
  · refine Or.inr ⟨a1, hr a2, ?_, ?_, fun j u v => ?_⟩
    · unfold MB at *
      rw [e 0 64 (by omega) (by omega), e 0 65 (by omega) (by omega), e 0 60 (by omega) (by omega)]; exact a3
    · intro i u v
      show m1 0 63 i = _
      rw [e 0 63 (by omega) (by omega)]; exact a4 i u v
    · rw [e 0 62 (by omega) (by omega)]
      have := a5 j u v
      unfold MkV ML at *
      rcases this with w | ⟨C, P, K, b1, b2, b3⟩
      · exact Or.inl w
      · exact Or.inr ⟨C, P, K, b1, by rw [e C 57 (by omega) (by omega), e C 58 (by omega) (by omega)]; exact b2, b3⟩
theorem hi_pA : ∀ j k, pA j k = true → 80 ≤ j := fun j k h => by simp [pA] at h; omega
theorem hi_pL : ∀ j k, pL j k = true → 80 ≤ j := fun j k h => by simp [pL] at h; omega
theorem hi_pZ : ∀ j k, pZ j k = true → 80 ≤ j := fun j k h => by simp [pZ] at h; omega
theorem qk_pA : qOk pA := ⟨fun k => by simp [pA], by simp [pA], by simp [pA], by simp [pA]⟩
theorem qk_pL : qOk pL := ⟨fun k => by simp [pL], by simp [pL], by simp [pL], by simp [pL]⟩
theorem qk_pZ : qOk pZ := ⟨fun k => by simp [pZ], by simp [pZ], by simp [pZ], by simp [pZ]⟩
theorem sc_pA : ∀ k, pA 110 k = false ∧ pA 111 k = false := fun k => by simp [pA]
theorem sc_pL : ∀ k, pL 110 k = false ∧ pL 111 k = false := fun k => by simp [pL]
theorem sc_pZ : ∀ k, pZ 110 k = false ∧ pZ 111 k = false := fun k => by simp [pZ]
theorem Inv.set {B : Int} {ρ ρ' : Int → Int} (h : Inv B ρ) (hr : ∀ k, ¬ (9 ≤ k ∧ k ≤ 15) → ¬ (78 ≤ k ∧ k < 107) → ρ' k = ρ k) (h9 : 0 ≤ ρ' 9 ∧ ρ' 9 ≤ 1000) (h10 : 0 ≤ ρ' 10 ∧ ρ' 10 < 1000003) (h11 : 0 ≤ ρ' 11 ∧ ρ' 11 ≤ 3) (h12 : ρ' 12 = -1 ∨ 0 ≤ ρ' 12) (h13 : 0 ≤ ρ' 13 ∧ ρ' 13 ≤ 12) (h14 : ρ' 14 = 0 ∨ ρ' 14 = 1) (h15 : 0 ≤ ρ' 15 ∧ ρ' 15 ≤ 16777215) (hp : ∀ i, 0 ≤ i → i < 5 → 1 ≤ ρ' (102 + i) ∧ ρ' (102 + i) ≤ 9) : Inv B ρ' := by
  have hh : hiEq ρ ρ' := fun k hk => hr k (by omega) (by omega)
  have e7 := hr 7 (by omega) (by omega)
  have e8 := hr 8 (by omega) (by omega)
  have e16 := hr 16 (by omega) (by omega)
  have e17 := hr 17 (by omega) (by omega)
  refine h.gen (h.1.1.ag (fun i a b => hr _ (by omega) (by omega))) (h.2.1.cong h.1.2.2.2.1.2 (fun k hk => hr k (by unfold rlW at hk; omega) (by unfold rlW at hk; omega))) (by rw [e7, e17]; exact h.1.2.2.1) (by rw [e8]; exact h.1.2.2.2.1) h9 h10 h11 h12 h13 h14 h15 ⟨by rw [e16]; exact h.1.2.2.2.2.2.1, fun l a b => (h.wf.1 l a (by rw [← e16]; exact b)).hi hh a⟩ ⟨by rw [e17]; exact h.1.2.2.2.2.2.2.1, fun j a b => (h.wf.2 j a (by rw [← e17]; exact b)).hi hh a⟩ (by rw [hr 19 (by omega) (by omega)]; exact h.2.2.1.2.2.2.2.2.2.2.2.2) hp (fun k hk => hr k (by omega) (by omega))
section OPB
variable {G g n : Nat} {s i0 i1 : Option Nat} {ρ ρ' t : Int → Int} {N fl st st' B B' : Int} {σ0 σ1 : Option (Int → Int)} {mi m1 m2 : MI} {mr r1 : MR}
theorem TxS.cg {P : Nat → Nat → Int → Bool} {x : Nat} (h : TxS mi x) (hg : Cg P mi m1) (hP : ∀ a b k, P a b k = true → b < 20 ∨ 27 < b) : TxS m1 x := h.mv (fun b z1 z2 => hg.row (fun k => by
    cases hb : P x b k with
    | false => rfl
    | true => have := hP x b k hb; omega))
/-- the class behind a call that leaves texts and the tape -/
theorem HC.chg {P : Nat → Nat → Int → Bool} (h : HC G g s i0 i1 ρ t N fl st σ0 σ1 mi n mr) (hg : Cg P mi m1) (al : ∀ a b k, P a b k = true → pAll g a b = true) (nt : ∀ a b k, P a b k = true → (b < 20 ∨ 27 < b) ∧ (b = 0 → k ≠ 1 ∧ k ≠ 2)) (hr : Cr mr r1) (hR : Rep (-1) m1 g ρ') (e3 : m1 0 0 3 = st') (hK : MkK m1 r1 ρ') (hp : PpK m1 ρ' ∧ (m1 0 70 10 ≠ 0 → ρ' 17 ≠ 0)) : HC G g s i0 i1 ρ' t N fl st' σ0 σ1 m1 n r1 := by
  have f0 : ∀ k, k = 1 ∨ k = 2 → P 0 0 k = false := fun k hk => by
    cases hb : P 0 0 k with
    | false => rfl
    | true => have := (nt 0 0 k hb).2 rfl; omega
  exact h.mv hg al hr hR (h.2.1.2.1.cg hg (fun a b k z => (nt a b k z).1)) (h.2.1.2.2.cg hg (fun a b k z => (nt a b k z).1)) (by rw [hg.at (f0 1 (by omega))]; exact h.2.2.1.2.1) (by rw [hg.at (f0 2 (by omega))]; exact h.2.2.1.2.2.1) e3 hK hp
/-- .. and forgets what mender and paper knew -/
theorem HC.fgt {P : Nat → Nat → Int → Bool} (h : HC G g s i0 i1 ρ t N fl st σ0 σ1 mi n mr) (hg : Cg P mi m1) (al : ∀ a b k, P a b k = true → pAll g a b = true) (nt : ∀ a b k, P a b k = true → (b < 20 ∨ 27 < b) ∧ (b = 0 → k ≠ 1 ∧ k ≠ 2)) (hr : Cr mr r1) (hR : Rep (-1) m1 g ρ') (e3 : m1 0 0 3 = st') (e60 : m1 0 60 3 = -1) (e70 : m1 0 70 10 = 0) : HC G g s i0 i1 ρ' t N fl st' σ0 σ1 m1 n r1 := h.chg hg al nt hr hR e3 (Or.inl e60) ⟨Or.inl e70, fun z => absurd e70 z⟩
/-- .. and keeps them, of a row that differs in nothing that they hang on -/
theorem HC.kep {P : Nat → Nat → Int → Bool} (h : HC G g s i0 i1 ρ t N fl st σ0 σ1 mi n mr) (hI : Inv B ρ) (hg : Cg P mi m1) (al : ∀ a b k, P a b k = true → pAll g a b = true) (nt : ∀ a b k, P a b k = true → (b < 20 ∨ 27 < b) ∧ (b = 0 → k ≠ 1 ∧ k ≠ 2)) (n6 : ∀ a b k, P a b k = true → b < 57) (hr : Cr mr r1) (hR : Rep (-1) m1 g ρ') (e3 : m1 0 0 3 = st') (hm : mdEq ρ ρ') (hp : ppEq ρ ρ') : HC G g s i0 i1 ρ' t N fl st' σ0 σ1 m1 n r1 := by
  have e : ∀ a b, 57 ≤ b → m1 a b = mi a b := fun a b hb => hg.row (fun k => by
    cases hz : P a b k with
    | false => rfl
    | true => have := n6 a b k hz; omega)
  obtain ⟨p1, p2⟩ := h.pp2
  refine h.chg hg al nt hr hR e3 (h.mk.eq hm hI.mdw (fun a b z _ => e a b z) (fun z => hr.m2 z)) ⟨p1.eq hp (fun hz => ⟨hI.1.1, ⟨hI.1.2.2.1.1, hI.1.2.2.1.2 (by have := hI.1.2.2.2.2.2.2.1.1; omega)⟩, hI.1.2.2.2.1, hI.wf.2, hI.wf.1⟩) p2 (by rw [e 0 70 (by omega)]) (e 0 73 (by omega)), fun z => ?_⟩
  rw [hp 17 (by omega)]
  exact p2 (by rw [← e 0 70 (by omega)]; exact z)
theorem al_3 : ∀ (a b : Nat) (k : Int), (a == 0 && b == 0 && k == 3) = true → pAll g a b = true := fun a b k h => by simp at h; simp [pAll]; omega
theorem HC.rf (h : HC G g s i0 i1 ρ t N fl st σ0 σ1 mi n mr) (v : Int) : HC G g s i0 i1 ρ t N fl v σ0 σ1 (up mi 0 0 3 v) n mr := by
  have hg : Cg (fun a b k => a == 0 && b == 0 && k == (3 : Int)) mi (up mi 0 0 3 v) := Cg.rf.up (by simp)
  have e : ∀ a b, b ≠ 0 → up mi 0 0 3 v a b = mi a b := fun a b hb => up_j hb
  obtain ⟨p1, p2⟩ := h.pp2
  refine h.chg hg al_3 (fun a b k z => by simp at z; omega) Cr.rf (h.rep.far (fun a b z1 z2 => e a b (by omega))) up_at (h.mk.mvr (fun a b z1 z2 => e a b (by omega)) id) ?_
  unfold PpK
  rw [e 0 70 (by omega), e 0 73 (by omega)]
  exact ⟨p1, p2⟩
theorem HR.rf (h : HR ρ t N fl st σ0 σ1 mi) (v : Int) : HR ρ t N fl st σ0 σ1 (up mi 0 0 3 v) := h.mv (fun b hb => up_j (by omega))
theorem Scr.rf (v : Int) : Scr mi (up mi 0 0 3 v) := ⟨up_j (by decide), up_j (by decide)⟩
/-- the reference keeps what it looked up -/
theorem HR.kep {p : Nat → Int → Bool} (h : HR ρ t N fl st σ0 σ1 m1) (hw : MdW ρ) (hg : Ch p m1 m2) (hp : qOk p) (h2 : ∀ k, p 93 k = false) (h3 : p 80 33 = false ∧ p 80 34 = false ∧ p 80 35 = false ∧ p 80 36 = false) (e : mdEq ρ ρ') (e81 : m2 0 81 = ρ') (e1 : m2 0 80 1 = st') : HR ρ' t N fl st' σ0 σ1 m2 := by
  refine h.ch hg hp e81 e1 (fun m x y z => ?_)
  rw [hg.at h3.1] at z
  exact (h.2.2.2.2.2 m x y z).eq e hw (hg.at h3.2.1) (hg.at h3.2.2.1) (hg.at h3.2.2.2) (hg.row h2)
theorem HR.fgt {p : Nat → Int → Bool} (h : HR ρ t N fl st σ0 σ1 m1) (hg : Ch p m1 m2) (hp : qOk p) (e81 : m2 0 81 = ρ') (e1 : m2 0 80 1 = st') (e33 : m2 0 80 33 = 0) : HR ρ' t N fl st' σ0 σ1 m2 := h.ch hg hp e81 e1 (fun m x y z => by omega)
theorem al_pFl : ∀ a b k, pFl g a b k = true → pAll g a b = true := fun a b k h => by simp [pFl, pSt, pJ] at h; simp [pAll, rlS]; omega
theorem nt_pFl : ∀ a b k, pFl g a b k = true → (b < 20 ∨ 27 < b) ∧ (b = 0 → k ≠ 1 ∧ k ≠ 2) := fun a b k h => by simp [pFl, pSt, pJ] at h; omega
theorem b_flip (hS : LSt B mi n mr) (hB : B ≤ B') {c v : Int} : Both 20 mt_X11_flip [vR (some (0, 0)), vI c, vI v] mt_X12_flip [vR (some (0, 80)), vI c, vI v] B' mi n mr := by
  obtain ⟨G, g, s, i0, i1, ρ, t, N, fl, st, σ0, σ1, hC, hR, hP⟩ := hS
  intro Q1 hQ
  refine u_cflip hC.lay hC.now hC.lt hC.rep hP.1 (fun hn => ?_) (fun x1 x2 x3 m1 g1 e3 e60 e70 hR1 => ?_)
  · refine hQ _ _ n mr (Scr.rf _) (fun Q2 hf => ?_)
    have hC1 := hC.rf (-1)
    have hR1 := hR.rf (-1)
    obtain ⟨e81, -⟩ := id hR1
    subst e81
    exact t_flip hC1.lay hP.1.1 (fun _ m2 g2 e1 => hf m2 n mr ((Scr.rf _).tr (Scr.ch g2 sc_pT)) (LSt.mk (hC1.ch g2 hi_pT) (hR1.qT g2 e1) (hP.mono hB))) (fun a b c => absurd ⟨⟨a, b⟩, c⟩ hn)
  · refine hQ _ m1 n mr (Scr.all (g := g) g1 al_pFl) (fun Q2 hf => ?_)
    have hC1 := hC.fgt g1 al_pFl nt_pFl Cr.rf hR1 e3 e60 e70
    have hR1 := hR.all (g := g) g1 al_pFl
    obtain ⟨e81, -⟩ := id hR1
    subst e81
    exact t_flip hC1.lay hP.1.1 (fun hn => absurd ⟨⟨x1, x2⟩, x3⟩ hn) (fun _ _ _ m2 g2 e81 e1 e33 => hf m2 n mr ((Scr.all (g := g) g1 al_pFl).tr (Scr.ch g2 sc_pL)) (LSt.mk (hC1.ch g2 hi_pL) (hR1.fgt g2 qk_pL e81 e1 e33) (hP.row hB ((Inv_flipR hP.1 x1 (by omega) x3).mono hB))))
def pLo (g x j : Nat) (k : Int) : Bool := (x == g && j == 5) || (x == 0 && j == 0 && k == 3)
def pWa (g x j : Nat) (k : Int) : Bool := (x == g && j == 40) || (x == 0 && j == 0 && k == 3)
theorem al_pLo : ∀ a b k, pLo g a b k = true → pAll g a b = true := fun a b k h => by simp [pLo] at h; simp [pAll, rlS]; omega
theorem nt_pLo : ∀ a b k, pLo g a b k = true → (b < 20 ∨ 27 < b) ∧ (b = 0 → k ≠ 1 ∧ k ≠ 2) := fun a b k h => by simp [pLo] at h; omega
theorem n6_pLo : ∀ a b k, pLo g a b k = true → b < 57 := fun a b k h => by simp [pLo] at h; omega
theorem al_pWa : ∀ a b k, pWa g a b k = true → pAll g a b = true := fun a b k h => by simp [pWa] at h; simp [pAll, rlS]; omega
theorem nt_pWa : ∀ a b k, pWa g a b k = true → (b < 20 ∨ 27 < b) ∧ (b = 0 → k ≠ 1 ∧ k ≠ 2) := fun a b k h => by simp [pWa] at h; omega
theorem n6_pWa : ∀ a b k, pWa g a b k = true → b < 57 := fun a b k h => by simp [pWa] at h; omega
theorem md_set {ρ ρ' : Int → Int} (h : ∀ k, ¬ (9 ≤ k ∧ k ≤ 13) → k ≠ 15 → k ≠ 19 → ρ' k = ρ k) : mdEq ρ ρ' := fun k hk => by unfold mdP at hk; exact h k (by omega) (by omega) (by omega)
theorem pp_set {ρ ρ' : Int → Int} (h : ∀ k, ¬ (9 ≤ k ∧ k ≤ 15) → ρ' k = ρ k) : ppEq ρ ρ' := fun k hk => h k (by omega)
theorem b_lots (hS : LSt B mi n mr) (hB : B ≤ B') {a b : Int} : Both 20 mt_X11_lots [vR (some (0, 0)), vI a, vI b] mt_X12_lots [vR (some (0, 80)), vI a, vI b] B' mi n mr := by
  obtain ⟨G, g, s, i0, i1, ρ, t, N, fl, st, σ0, σ1, hC, hR, hP⟩ := hS
  intro Q1 hQ
  refine u_clots hC.lay hC.now hC.lt hC.rep hP.1 (fun hn => ?_) (fun x1 x2 x3 x4 m1 g1 e3 hR1 => ?_)
  · refine hQ _ _ n mr (Scr.rf _) (fun Q2 hf => ?_)
    have hC1 := hC.rf (-1)
    have hR1 := hR.rf (-1)
    exact t_lots hC1.lay (fun _ m2 g2 e1 => hf m2 n mr ((Scr.rf _).tr (Scr.ch g2 sc_pT)) (LSt.mk (hC1.ch g2 hi_pT) (hR1.qT g2 e1) (hP.mono hB))) (fun a b c d => absurd ⟨⟨a, b⟩, c, d⟩ hn)
  · have g1 : Cg (pLo g) mi m1 := g1
    refine hQ _ m1 n mr (Scr.all (g := g) g1 al_pLo) (fun Q2 hf => ?_)
    have hm : mdEq ρ (ud (ud ρ 9 a) 10 b) := md_set (fun k h1 h2 _ => by rw [ud_ne (by omega), ud_ne (by omega)])
    have hC1 := hC.kep hP.1 g1 al_pLo nt_pLo n6_pLo Cr.rf hR1 e3 hm (pp_set (fun k h1 => by rw [ud_ne (by omega), ud_ne (by omega)]))
    have hI : Inv B (ud (ud ρ 9 a) 10 b) := by
      have c := hP.1.2.2.1
      have d := hP.1.1
      refine hP.1.set (fun k h1 h2 => by rw [ud_ne (by omega), ud_ne (by omega)]) (by rw [ud_ne (by omega), ud_at]; omega) (by rw [ud_at]; omega) (by rw [ud_ne (by omega), ud_ne (by omega)]; exact c.2.2.1) (by rw [ud_ne (by omega), ud_ne (by omega)]; exact c.2.2.2.2.2.2.1) (by rw [ud_ne (by omega), ud_ne (by omega)]; exact d.2.2.2.2.2.2.2.1.2.2) (by rw [ud_ne (by omega), ud_ne (by omega)]; exact c.2.2.2.2.1) (by rw [ud_ne (by omega), ud_ne (by omega)]; exact c.2.2.2.1) (fun i h1 h2 => by rw [ud_ne (by omega), ud_ne (by omega)]; exact c.2.1 i h1 h2)
    have hR1 := hR.all (g := g) g1 al_pLo
    have hw := hP.1.mdw
    obtain ⟨e81, -⟩ := id hR1
    subst e81
    exact t_lots hC1.lay (fun hn => absurd ⟨⟨x1, x2⟩, x3, x4⟩ hn) (fun _ _ _ _ m2 g2 e81 e1 => hf m2 n mr ((Scr.all (g := g) g1 al_pLo).tr (Scr.ch g2 sc_pA)) (LSt.mk (hC1.ch g2 hi_pA) (hR1.kep hw g2 qk_pA (fun k => by simp [pA]) (by simp [pA]) hm e81 e1) (hP.row hB (hI.mono hB))))
theorem b_watch (hS : LSt B mi n mr) (hB : B ≤ B') {a : Int} : Both 20 mt_X11_watch [vR (some (0, 0)), vI a] mt_X12_watch [vR (some (0, 80)), vI a] B' mi n mr := by
  obtain ⟨G, g, s, i0, i1, ρ, t, N, fl, st, σ0, σ1, hC, hR, hP⟩ := hS
  intro Q1 hQ
  have h11 := hP.1.2.2.1.2.2.1
  refine u_cwatch hC.lay hC.now hC.lt hC.rep hP.1 (fun hn => ?_) (fun x1 x2 m1 g1 e3 hR1 => ?_)
  · refine hQ _ _ n mr (Scr.rf _) (fun Q2 hf => ?_)
    have hC1 := hC.rf (-1)
    have hR1 := hR.rf (-1)
    obtain ⟨e81, -⟩ := id hR1
    subst e81
    exact t_watch hC1.lay h11.1 (fun _ m2 g2 e1 => hf m2 n mr ((Scr.rf _).tr (Scr.ch g2 sc_pT)) (LSt.mk (hC1.ch g2 hi_pT) (hR1.qT g2 e1) (hP.mono hB))) (fun a b => absurd ⟨a, b⟩ hn)
  · have g1 : Cg (pWa g) mi m1 := g1
    refine hQ _ m1 n mr (Scr.all (g := g) g1 al_pWa) (fun Q2 hf => ?_)
    have hm : mdEq ρ (ud ρ 11 a) := md_set (fun k h1 h2 _ => by rw [ud_ne (by omega)])
    have hC1 := hC.kep hP.1 g1 al_pWa nt_pWa n6_pWa Cr.rf hR1 e3 hm (pp_set (fun k h1 => by rw [ud_ne (by omega)]))
    have hI : Inv B (ud ρ 11 a) := by
      have c := hP.1.2.2.1
      have d := hP.1.1
      refine hP.1.set (fun k h1 h2 => by rw [ud_ne (by omega)]) (by rw [ud_ne (by omega)]; exact c.2.2.2.2.2.1) (by rw [ud_ne (by omega)]; exact d.2.2.2.2.1) (by rw [ud_at]; omega) (by rw [ud_ne (by omega)]; exact c.2.2.2.2.2.2.1) (by rw [ud_ne (by omega)]; exact d.2.2.2.2.2.2.2.1.2.2) (by rw [ud_ne (by omega)]; exact c.2.2.2.2.1) (by rw [ud_ne (by omega)]; exact c.2.2.2.1) (fun i h1 h2 => by rw [ud_ne (by omega)]; exact c.2.1 i h1 h2)
    have hR1 := hR.all (g := g) g1 al_pWa
    have hw := hP.1.mdw
    obtain ⟨e81, -⟩ := id hR1
    subst e81
    exact t_watch hC1.lay h11.1 (fun hn => absurd ⟨x1, x2⟩ hn) (fun _ _ m2 g2 e81 e1 => hf m2 n mr ((Scr.all (g := g) g1 al_pWa).tr (Scr.ch g2 sc_pA)) (LSt.mk (hC1.ch g2 hi_pA) (hR1.kep hw g2 qk_pA (fun k => by simp [pA]) (by simp [pA]) hm e81 e1) (hP.row hB (hI.mono hB))))
theorem b_routine (hS : LSt B mi n mr) (hB : B ≤ B') {a b : Int} : Both 20 mt_X11_routine [vR (some (0, 0)), vI a, vI b] mt_X12_routine [vR (some (0, 80)), vI a, vI b] B' mi n mr := by
  obtain ⟨G, g, s, i0, i1, ρ, t, N, fl, st, σ0, σ1, hC, hR, hP⟩ := hS
  intro Q1 hQ
  have h17 := hP.1.1.2.2.2.2.2.2.1
  refine u_croutine hC.lay hC.now hC.lt hC.rep hP.1 (fun hn => ?_) (fun x1 x2 hn => ?_) (fun x1 x2 x3 m1 g1 e3 hR1 => ?_)
  · refine hQ _ _ n mr (Scr.rf _) (fun Q2 hf => ?_)
    have hC1 := hC.rf (-2)
    have hR1 := hR.rf (-2)
    obtain ⟨e81, -⟩ := id hR1
    subst e81
    exact t_routine hC1.lay h17.1 h17.2 (fun _ m2 g2 e1 => hf m2 n mr ((Scr.rf _).tr (Scr.ch g2 sc_pT)) (LSt.mk (hC1.ch g2 hi_pT) (hR1.qT g2 e1) (hP.mono hB))) (fun a b => absurd ⟨a, b⟩ hn) (fun a b => absurd ⟨a, b⟩ hn)
  · refine hQ _ _ n mr (Scr.rf _) (fun Q2 hf => ?_)
    have hC1 := hC.rf (-3)
    have hR1 := hR.rf (-3)
    obtain ⟨e81, -⟩ := id hR1
    subst e81
    exact t_routine hC1.lay h17.1 h17.2 (fun hz => absurd ⟨x1, x2⟩ hz) (fun _ _ _ m2 g2 e1 => hf m2 n mr ((Scr.rf _).tr (Scr.ch g2 sc_pT)) (LSt.mk (hC1.ch g2 hi_pT) (hR1.qT g2 e1) (hP.mono hB))) (fun _ _ c => absurd c (by omega))
  · have g1 : Cg (pWa g) mi m1 := g1
    refine hQ _ m1 n mr (Scr.all (g := g) g1 al_pWa) (fun Q2 hf => ?_)
    have hm : mdEq ρ (ud (ud ρ 12 a) 13 b) := md_set (fun k h1 h2 _ => by rw [ud_ne (by omega), ud_ne (by omega)])
    have hC1 := hC.kep hP.1 g1 al_pWa nt_pWa n6_pWa Cr.rf hR1 e3 hm (pp_set (fun k h1 => by rw [ud_ne (by omega), ud_ne (by omega)]))
    have hI : Inv B (ud (ud ρ 12 a) 13 b) := by
      have c := hP.1.2.2.1
      have d := hP.1.1
      refine hP.1.set (fun k h1 h2 => by rw [ud_ne (by omega), ud_ne (by omega)]) (by rw [ud_ne (by omega), ud_ne (by omega)]; exact c.2.2.2.2.2.1) (by rw [ud_ne (by omega), ud_ne (by omega)]; exact d.2.2.2.2.1) (by rw [ud_ne (by omega), ud_ne (by omega)]; exact c.2.2.1) (by rw [ud_ne (by omega), ud_at]; exact Or.inr x1.1) (by rw [ud_at]; omega) (by rw [ud_ne (by omega), ud_ne (by omega)]; exact c.2.2.2.2.1) (by rw [ud_ne (by omega), ud_ne (by omega)]; exact c.2.2.2.1) (fun i h1 h2 => by rw [ud_ne (by omega), ud_ne (by omega)]; exact c.2.1 i h1 h2)
    have hR1 := hR.all (g := g) g1 al_pWa
    have hw := hP.1.mdw
    obtain ⟨e81, -⟩ := id hR1
    subst e81
    exact t_routine hC1.lay h17.1 h17.2 (fun hz => absurd ⟨x1, x2⟩ hz) (fun _ _ c => absurd c (by omega)) (fun _ _ _ m2 g2 e81 e1 => hf m2 n mr ((Scr.all (g := g) g1 al_pWa).tr (Scr.ch g2 sc_pA)) (LSt.mk (hC1.ch g2 hi_pA) (hR1.kep hw g2 qk_pA (fun k => by simp [pA]) (by simp [pA]) hm e81 e1) (hP.row hB (hI.mono hB))))
theorem b_weighty (hS : LSt B mi n mr) (hB : B ≤ B') {a : Int} : Both 20 mt_X11_weighty [vR (some (0, 0)), vI a] mt_X12_weighty [vR (some (0, 80)), vI a] B' mi n mr := by
  obtain ⟨G, g, s, i0, i1, ρ, t, N, fl, st, σ0, σ1, hC, hR, hP⟩ := hS
  intro Q1 hQ
  have h15 := hP.1.2.2.1.2.2.2.1
  refine u_cweighty hC.lay hC.now hC.lt hC.rep hP.1 (fun hn => ?_) (fun x1 x2 m1 g1 e3 hR1 => ?_)
  · refine hQ _ _ n mr (Scr.rf _) (fun Q2 hf => ?_)
    have hC1 := hC.rf (-1)
    have hR1 := hR.rf (-1)
    obtain ⟨e81, -⟩ := id hR1
    subst e81
    exact t_weighty hC1.lay h15.1 (fun _ m2 g2 e1 => hf m2 n mr ((Scr.rf _).tr (Scr.ch g2 sc_pT)) (LSt.mk (hC1.ch g2 hi_pT) (hR1.qT g2 e1) (hP.mono hB))) (fun a b => absurd ⟨a, b⟩ hn)
  · have g1 : Cg (pLo g) mi m1 := g1
    refine hQ _ m1 n mr (Scr.all (g := g) g1 al_pLo) (fun Q2 hf => ?_)
    have hC1 := hC.kep hP.1 g1 al_pLo nt_pLo n6_pLo Cr.rf hR1 e3 (md_set (fun k h1 h2 _ => by rw [ud_ne (by omega)])) (pp_set (fun k h1 => by rw [ud_ne (by omega)]))
    have hI : Inv B (ud ρ 15 a) := by
      have c := hP.1.2.2.1
      have d := hP.1.1
      refine hP.1.set (fun k h1 h2 => by rw [ud_ne (by omega)]) (by rw [ud_ne (by omega)]; exact c.2.2.2.2.2.1) (by rw [ud_ne (by omega)]; exact d.2.2.2.2.1) (by rw [ud_ne (by omega)]; exact c.2.2.1) (by rw [ud_ne (by omega)]; exact c.2.2.2.2.2.2.1) (by rw [ud_ne (by omega)]; exact d.2.2.2.2.2.2.2.1.2.2) (by rw [ud_ne (by omega)]; exact c.2.2.2.2.1) (by rw [ud_at]; omega) (fun i h1 h2 => by rw [ud_ne (by omega)]; exact c.2.1 i h1 h2)
    have hR1 := hR.all (g := g) g1 al_pLo
    obtain ⟨e81, -⟩ := id hR1
    subst e81
    exact t_weighty hC1.lay h15.1 (fun hn => absurd ⟨x1, x2⟩ hn) (fun _ _ m2 g2 e81 e1 e33 => hf m2 n mr ((Scr.all (g := g) g1 al_pLo).tr (Scr.ch g2 sc_pL)) (LSt.mk (hC1.ch g2 hi_pL) (hR1.fgt g2 qk_pL e81 e1 e33) (hP.row hB (hI.mono hB))))
theorem al_pCh : ∀ a b k, pCh g a b k = true → pAll g a b = true := fun a b k h => by simp [pCh] at h; simp [pAll, rlS]; omega
theorem nt_pCh : ∀ a b k, pCh g a b k = true → (b < 20 ∨ 27 < b) ∧ (b = 0 → k ≠ 1 ∧ k ≠ 2) := fun a b k h => by simp [pCh] at h; omega
theorem b_price (hS : LSt B mi n mr) (hB : B ≤ B') {q p : Int} : Both 20 mt_X11_price [vR (some (0, 0)), vI q, vI p] mt_X12_price [vR (some (0, 80)), vI q, vI p] B' mi n mr := by
  obtain ⟨G, g, s, i0, i1, ρ, t, N, fl, st, σ0, σ1, hC, hR, hP⟩ := hS
  intro Q1 hQ
  have hp := hP.1.2.2.1.2.1
  refine u_cprice hC.lay hC.now hC.lt hC.rep hP.1 (fun hn => ?_) (fun x1 x2 x3 x4 m1 g1 e3 e60 e70 hR1 => ?_)
  · refine hQ _ _ n mr (Scr.rf _) (fun Q2 hf => ?_)
    have hC1 := hC.rf (-1)
    have hR1 := hR.rf (-1)
    obtain ⟨e81, -⟩ := id hR1
    subst e81
    exact t_price hC1.lay (fun i a b => by have := hp i a b; omega) (fun _ m2 g2 e1 => hf m2 n mr ((Scr.rf _).tr (Scr.ch g2 sc_pT)) (LSt.mk (hC1.ch g2 hi_pT) (hR1.qT g2 e1) (hP.mono hB))) (fun a b c d => absurd ⟨⟨a, b⟩, c, d⟩ hn)
  · refine hQ _ m1 n mr (Scr.all (g := g) g1 al_pCh) (fun Q2 hf => ?_)
    have hC1 := hC.fgt g1 al_pCh nt_pCh Cr.rf hR1 e3 e60 e70
    have hI : Inv B (ud ρ (102 + q) p) := by
      have c := hP.1.2.2.1
      have d := hP.1.1
      refine hP.1.set (fun k h1 h2 => by rw [ud_ne (by omega)]) (by rw [ud_ne (by omega)]; exact c.2.2.2.2.2.1) (by rw [ud_ne (by omega)]; exact d.2.2.2.2.1) (by rw [ud_ne (by omega)]; exact c.2.2.1) (by rw [ud_ne (by omega)]; exact c.2.2.2.2.2.2.1) (by rw [ud_ne (by omega)]; exact d.2.2.2.2.2.2.2.1.2.2) (by rw [ud_ne (by omega)]; exact c.2.2.2.2.1) (by rw [ud_ne (by omega)]; exact c.2.2.2.1) (fun i h1 h2 => ?_)
      by_cases e : i = q
      · rw [e, ud_at]; omega
      · rw [ud_ne (by omega)]; exact c.2.1 i h1 h2
    have hR1 := hR.all (g := g) g1 al_pCh
    obtain ⟨e81, -⟩ := id hR1
    subst e81
    exact t_price hC1.lay (fun i a b => by have := hp i a b; omega) (fun hn => absurd ⟨⟨x1, x2⟩, x3, x4⟩ hn) (fun _ _ _ _ m2 g2 e81 e1 e33 => hf m2 n mr ((Scr.all (g := g) g1 al_pCh).tr (Scr.ch g2 sc_pL)) (LSt.mk (hC1.ch g2 hi_pL) (hR1.fgt g2 qk_pL e81 e1 e33) (hP.row hB (hI.mono hB))))
theorem b_copy (hS : LSt B mi n mr) (hB : B ≤ B') : Both 20 mt_X11_copy [vR (some (0, 0))] mt_X12_copy [vR (some (0, 80))] B' mi n mr := by
  obtain ⟨G, g, s, i0, i1, ρ, t, N, fl, st, σ0, σ1, hC, hR, hP⟩ := hS
  intro Q1 hQ
  refine u_ccopy hC.lay hC.now hC.lt hC.rep hP.1 (fun m1 g1 e3 e60 e70 hR1 => ?_)
  refine hQ _ m1 n mr (Scr.all (g := g) g1 al_pCh) (fun Q2 hf => ?_)
  have hC1 := hC.fgt g1 al_pCh nt_pCh Cr.rf hR1 (e3.trans hC.2.2.1.2.2.2) e60 e70
  have ec : ∀ k, k < 78 ∨ 102 ≤ k → cpF ρ ρ 78 30 24 k = ρ k := fun k hk => by unfold cpF; rw [if_neg (by omega)]
  have hI : Inv B (ud (cpF ρ ρ 78 30 24) 14 1) := by
    have c := hP.1.2.2.1
    have d := hP.1.1
    refine hP.1.set (fun k h1 h2 => by rw [ud_ne (by omega), ec k (by omega)]) (by rw [ud_ne (by omega), ec _ (by omega)]; exact c.2.2.2.2.2.1) (by rw [ud_ne (by omega), ec _ (by omega)]; exact d.2.2.2.2.1) (by rw [ud_ne (by omega), ec _ (by omega)]; exact c.2.2.1) (by rw [ud_ne (by omega), ec _ (by omega)]; exact c.2.2.2.2.2.2.1) (by rw [ud_ne (by omega), ec _ (by omega)]; exact d.2.2.2.2.2.2.2.1.2.2) (by rw [ud_at]; omega) (by rw [ud_ne (by omega), ec _ (by omega)]; exact c.2.2.2.1) (fun i h1 h2 => by rw [ud_ne (by omega), ec _ (by omega)]; exact c.2.1 i h1 h2)
  have hR1 := hR.all (g := g) g1 al_pCh
  have e1' := hR1.2.2.1.2.2
  obtain ⟨e81, -⟩ := id hR1
  subst e81
  exact t_copy hC1.lay (fun m2 g2 e81 e1 e33 => hf m2 n mr ((Scr.all (g := g) g1 al_pCh).tr (Scr.ch g2 sc_pL)) (LSt.mk (hC1.ch g2 hi_pL) (hR1.fgt g2 qk_pL e81 (e1.trans e1') e33) (hP.row hB (hI.mono hB))))
theorem al_pSu : ∀ a b k, pSu g a b k = true → pAll g a b = true := fun a b k h => by simp [pSu] at h; simp [pAll, rlS]; omega
theorem nt_pSu : ∀ a b k, pSu g a b k = true → (b < 20 ∨ 27 < b) ∧ (b = 0 → k ≠ 1 ∧ k ≠ 2) := fun a b k h => by simp [pSu] at h; omega
theorem b_sure (hS : LSt B mi n mr) (hB : B ≤ B') {c : Int} : Both 20 mt_X11_sure [vR (some (0, 0)), vI c] mt_X12_sure [vR (some (0, 80)), vI c] B' mi n mr := by
  obtain ⟨G, g, s, i0, i1, ρ, t, N, fl, st, σ0, σ1, hC, hR, hP⟩ := hS
  intro Q1 hQ
  refine u_csure hC.lay hC.now hC.lt hC.rep hP.1 (fun hn => ?_) (fun x1 x2 hz => ?_) (fun x1 x2 x3 m1 g1 e3 e60 e70 hR1 => ?_)
  · refine hQ _ _ n mr (Scr.rf _) (fun Q2 hf => ?_)
    have hC1 := hC.rf (-1)
    have hR1 := hR.rf (-1)
    exact t_sure hC1.lay (fun _ m2 g2 e1 => hf m2 n mr ((Scr.rf _).tr (Scr.ch g2 sc_pT)) (LSt.mk (hC1.ch g2 hi_pT) (hR1.qT g2 e1) (hP.mono hB))) (fun a b => absurd ⟨a, b⟩ hn) (fun a b => absurd ⟨a, b⟩ hn)
  · refine hQ _ _ n mr (Scr.rf _) (fun Q2 hf => ?_)
    have hC1 := hC.rf (-3)
    have hR1 := hR.rf (-3)
    obtain ⟨e81, -⟩ := id hR1
    subst e81
    exact t_sure hC1.lay (fun hn => absurd ⟨x1, x2⟩ hn) (fun _ _ _ m2 g2 e1 => hf m2 n mr ((Scr.rf _).tr (Scr.ch g2 sc_pT)) (LSt.mk (hC1.ch g2 hi_pT) (hR1.qT g2 e1) (hP.mono hB))) (fun _ _ c => absurd hz c)
  · refine hQ _ m1 n mr (Scr.all (g := g) g1 al_pSu) (fun Q2 hf => ?_)
    have hC1 := hC.fgt g1 al_pSu nt_pSu Cr.rf hR1 e3 e60 e70
    have hm : mdEq ρ (ud ρ 19 (bClr (ρ 19) c)) := md_set (fun k h1 h2 h3 => by rw [ud_ne h3])
    have hI : Inv B (ud ρ 19 (bClr (ρ 19) c)) := by
      have h8 := hP.1.1.2.2.2.1
      refine hP.1.cong (hP.1.1.1.ag (fun i a b => ud_ne (by omega))) (hP.1.2.1.cong h8.2 (fun k hk => ud_ne (by unfold rlW at hk; omega))) (by rw [ud_ne (by omega)]; exact h8) ?_ (fun k _ h2 _ _ => ud_ne h2)
      rw [ud_at]
      unfold bClr
      exact bAnd_rg _ _
    have hR1 := hR.all (g := g) g1 al_pSu
    have hw := hP.1.mdw
    obtain ⟨e81, -⟩ := id hR1
    subst e81
    exact t_sure hC1.lay (fun hn => absurd ⟨x1, x2⟩ hn) (fun _ _ hz => absurd hz x3) (fun _ _ _ m2 g2 e81 e1 => hf m2 n mr ((Scr.all (g := g) g1 al_pSu).tr (Scr.ch g2 sc_pA)) (LSt.mk (hC1.ch g2 hi_pA) (hR1.kep hw g2 qk_pA (fun k => by simp [pA]) (by simp [pA]) hm e81 e1) (hP.row hB (hI.mono hB))))
theorem al_pCs : ∀ a b k, pCs g a b k = true → pAll g a b = true := fun a b k h => by simp [pCs, pSo, pQ, pW5, pTo, pSt, pJ, pLt] at h; simp [pAll, rlS]; omega
theorem nt_pCs : ∀ a b k, pCs g a b k = true → (b < 20 ∨ 27 < b) ∧ (b = 0 → k ≠ 1 ∧ k ≠ 2) := fun a b k h => by simp [pCs, pSo, pQ, pW5, pTo, pSt, pJ, pLt] at h; omega
theorem b_step (hS : LSt B mi n mr) (hB : B + 64 ≤ B') (hM : B + 64 ≤ 1000000) {x : Int} : Both 20 mt_X11_step [vR (some (0, 0)), vI x] mt_X12_step [vR (some (0, 80)), vI x] B' mi n mr := by
  obtain ⟨G, g, s, i0, i1, ρ, t, N, fl, st, σ0, σ1, hC, hR, hP⟩ := hS
  intro Q1 hQ
  have h17 := hP.1.1.2.2.2.2.2.2.1
  refine u_cstep hC.lay hC.now hC.lt hC.rep hP.1 hM (fun hn => ?_) (fun x1 x2 hz => ?_) (fun x1 x2 x3 m1 r1 g1 c1 e3 e60 e70 hR1 => ?_)
  · refine hQ _ _ n mr (Scr.rf _) (fun Q2 hf => ?_)
    have hC1 := hC.rf (-1)
    have hR1 := hR.rf (-1)
    obtain ⟨e81, -⟩ := id hR1
    subst e81
    exact t_step hC1.lay hP.1 hM (fun _ m2 g2 e1 => hf m2 n mr ((Scr.rf _).tr (Scr.ch g2 sc_pT)) (LSt.mk (hC1.ch g2 hi_pT) (hR1.qT g2 e1) (hP.mono (by omega)))) (fun a b => absurd ⟨a, b⟩ hn) (fun a b => absurd ⟨a, b⟩ hn)
  · refine hQ _ _ n mr (Scr.rf _) (fun Q2 hf => ?_)
    have hC1 := hC.rf (-3)
    have hR1 := hR.rf (-3)
    obtain ⟨e81, -⟩ := id hR1
    subst e81
    exact t_step hC1.lay hP.1 hM (fun hn => absurd ⟨x1, x2⟩ hn) (fun _ _ _ m2 g2 e1 => hf m2 n mr ((Scr.rf _).tr (Scr.ch g2 sc_pT)) (LSt.mk (hC1.ch g2 hi_pT) (hR1.qT g2 e1) (hP.mono (by omega)))) (fun _ _ c => absurd hz c)
  · refine hQ _ m1 n r1 (Scr.all (g := g) g1 al_pCs) (fun Q2 hf => ?_)
    have hC1 := hC.fgt g1 al_pCs nt_pCs c1 hR1 e3 e60 e70
    have hI := (stpN_Inv hP.1 (by omega) x.toNat (by omega)).1
    have hR1 := hR.all (g := g) g1 al_pCs
    obtain ⟨e81, -⟩ := id hR1
    subst e81
    exact t_step hC1.lay hP.1 hM (fun hn => absurd ⟨x1, x2⟩ hn) (fun _ _ hz => absurd hz x3) (fun _ _ _ m2 g2 e1 e33 e81 => hf m2 n r1 ((Scr.all (g := g) g1 al_pCs).tr (Scr.ch g2 sc_pZ)) (LSt.mk (hC1.ch g2 hi_pZ) (hR1.fgt g2 qk_pZ e81 e1 e33) (hP.row (by omega) (hI.mono (by omega)))))
end OPB
