/-! the law: class and reference hold the same -/
def Scr (m m' : MI) : Prop := m' 0 110 = m 0 110 ∧ m' 0 111 = m 0 111
theorem Scr.tr {m m' m2 : MI} (h : Scr m m') (h2 : Scr m' m2) : Scr m m2 := ⟨h2.1.trans h.1, h2.2.trans h.2⟩
theorem Scr.cg {P : Nat → Nat → Int → Bool} {m m' : MI} (h : Cg P m m') (hP : ∀ k, P 0 110 k = false ∧ P 0 111 k = false) : Scr m m' := ⟨h.row (fun k => (hP k).1), h.row (fun k => (hP k).2)⟩
theorem Scr.ch {P : Nat → Int → Bool} {m m' : MI} (h : Ch P m m') (hP : ∀ k, P 110 k = false ∧ P 111 k = false) : Scr m m' := ⟨h.row (fun k => (hP k).1), h.row (fun k => (hP k).2)⟩
def ImS (mi : MI) (i : Option Nat) (σ : Option (Int → Int)) : Prop := match i with
  | none => σ = none
  | some h => ∃ τ, σ = some τ ∧ Rep (-1) mi h τ ∧ TxS mi h ∧ TxS mi (h + 10)
def RIm (mi : MI) (k : Int) (σ : Option (Int → Int)) : Prop := match σ with
  | none => mi 0 84 k = 0
  | some τ => mi 0 84 k ≠ 0 ∧ ∀ i, 0 ≤ i → i < 3886 → mi 0 83 (3886 * k + i) = τ i
/-- what the class holds -/
def HC (G g : Nat) (s i0 i1 : Option Nat) (ρ t : Int → Int) (N fl st : Int) (σ0 σ1 : Option (Int → Int)) (mi : MI) (n : Nat) (mr : MR) : Prop := (Lay G mr ∧ Own G g s i0 i1 mr ∧ n = 93 + 37 * G ∧ Fz n mi mr) ∧ (Rep (-1) mi g ρ ∧ TxS mi g ∧ TxS mi (g + 10)) ∧ (mi 0 1 = t ∧ mi 0 0 1 = N ∧ mi 0 0 2 = fl ∧ mi 0 0 3 = st) ∧ (ImS mi i0 σ0 ∧ ImS mi i1 σ1) ∧ MkK mi mr ρ ∧ (PpK mi ρ ∧ (mi 0 70 10 ≠ 0 → ρ 17 ≠ 0))
/-- what the reference holds -/
def HR (ρ t : Int → Int) (N fl st : Int) (σ0 σ1 : Option (Int → Int)) (mi : MI) : Prop := mi 0 81 = ρ ∧ mi 0 86 = t ∧ (mi 0 80 11 = N ∧ mi 0 80 16 = fl ∧ mi 0 80 1 = st) ∧ (RIm mi 0 σ0 ∧ RIm mi 1 σ1) ∧ (-100 ≤ mi 0 80 25 ∧ mi 0 80 25 ≤ 100) ∧ ∀ m, 1 ≤ m → m ≤ 3 → mi 0 80 33 = m → LkY ρ m mi
/-- what is true of what they hold -/
def HP (B : Int) (ρ t : Int → Int) (N : Int) (σ0 σ1 : Option (Int → Int)) : Prop := Inv B ρ ∧ Tpe t N ∧ (∀ τ, σ0 = some τ → Inv B τ) ∧ ∀ τ, σ1 = some τ → Inv B τ
def LSt (B : Int) (mi : MI) (n : Nat) (mr : MR) : Prop := ∃ (G g : Nat) (s i0 i1 : Option Nat) (ρ t : Int → Int) (N fl st : Int) (σ0 σ1 : Option (Int → Int)), HC G g s i0 i1 ρ t N fl st σ0 σ1 mi n mr ∧ HR ρ t N fl st σ0 σ1 mi ∧ HP B ρ t N σ0 σ1
def RfT (d : Nat) (M2 : MT) (a2 : List V) (B : Int) (mi m1 : MI) (n1 : Nat) (r1 : MR) (x : Int) : Prop := ∀ Q2 : V → MI → Nat → MR → Prop, (∀ m2 n2 r2, Scr mi m2 → LSt B m2 n2 r2 → Q2 (vI x) m2 n2 r2) → Tx d M2 a2 m1 n1 r1 Q2
def Both (d : Nat) (M1 : MT) (a1 : List V) (M2 : MT) (a2 : List V) (B : Int) (mi : MI) (n : Nat) (mr : MR) : Prop := ∀ Q1 : V → MI → Nat → MR → Prop, (∀ x m1 n1 r1, Scr mi m1 → RfT d M2 a2 B mi m1 n1 r1 x → Q1 (vI x) m1 n1 r1) → Tx d M1 a1 mi n mr Q1
/-- what calls of the class may change (but the tape, and what image makes) -/
def pAll (g a b : Nat) : Bool := rlS g a b || (decide (44 ≤ b) && decide (b < 80)) || (a == 20 && (decide (20 ≤ b) && decide (b ≤ 27))) || (a == 9 && (b == 15 || b == 16)) || (a == 0 && b == 0)
theorem pAll_hi {g a b : Nat} (h : pAll g a b = true) : b < 80 := by
  simp [pAll, rlS] at h
  omega
theorem pAll_t {g : Nat} : pAll g 0 1 = false := by simp [pAll, rlS]
theorem pAll_unm {G g a b : Nat} (h1 : 1 ≤ G) (h4 : G ≤ 4) (hg : g < G) (hu : unm G a b) : pAll g a b = false := by
  unfold unm at hu
  simp [pAll, rlS]
  omega
theorem pAll_im {g h a b : Nat} (h4 : h < 4) (hg : g < 4) (hne : h ≠ g) (hr : rlS h a b = true) : pAll g a b = false := by
  simp [rlS] at hr
  simp [pAll, rlS]
  omega
theorem ImS.mv {mi m1 : MI} {i : Option Nat} {σ : Option (Int → Int)} (h : ImS mi i σ) (e : ∀ x, i = some x → ∀ a b, rlS x a b = true → m1 a b = mi a b) : ImS m1 i σ := by
  cases i with
  | none => exact h
  | some x =>
    obtain ⟨τ, h1, h2, h3, h4⟩ := h
    exact ⟨τ, h1, h2.mv (fun a b z => e x rfl a b z), h3.mv (fun b z1 z2 => e x rfl x b (by simp [rlS]; omega)), h4.mv (fun b z1 z2 => e x rfl (x + 10) b (by simp [rlS]; omega))⟩
section HCC
variable {G g n : Nat} {s i0 i1 : Option Nat} {ρ ρ' t : Int → Int} {N fl st N' fl' st' : Int} {σ0 σ1 : Option (Int → Int)} {mi m1 : MI} {mr r1 : MR}
theorem HC.lay (h : HC G g s i0 i1 ρ t N fl st σ0 σ1 mi n mr) : Lay G mr := h.1.1
theorem HC.own (h : HC G g s i0 i1 ρ t N fl st σ0 σ1 mi n mr) : Own G g s i0 i1 mr := h.1.2.1
theorem HC.now (h : HC G g s i0 i1 ρ t N fl st σ0 σ1 mi n mr) : mr 0 0 4 = some (g, 5) := h.1.2.1.1
theorem HC.lt (h : HC G g s i0 i1 ρ t N fl st σ0 σ1 mi n mr) : g < G := h.1.2.1.2.2.2.2.1
theorem HC.g4 (h : HC G g s i0 i1 ρ t N fl st σ0 σ1 mi n mr) : G ≤ 4 := h.1.2.1.g4.2
theorem HC.rep (h : HC G g s i0 i1 ρ t N fl st σ0 σ1 mi n mr) : Rep (-1) mi g ρ := h.2.1.1
theorem HC.mk (h : HC G g s i0 i1 ρ t N fl st σ0 σ1 mi n mr) : MkK mi mr ρ := h.2.2.2.2.1
theorem HC.pp (h : HC G g s i0 i1 ρ t N fl st σ0 σ1 mi n mr) : PpK mi ρ := h.2.2.2.2.2.1
theorem HC.pp2 (h : HC G g s i0 i1 ρ t N fl st σ0 σ1 mi n mr) : PpK mi ρ ∧ (mi 0 70 10 ≠ 0 → ρ 17 ≠ 0) := h.2.2.2.2.2
theorem HC.mv {P : Nat → Nat → Int → Bool} (h : HC G g s i0 i1 ρ t N fl st σ0 σ1 mi n mr) (hg : Cg P mi m1) (hP : ∀ a b k, P a b k = true → pAll g a b = true) (hr : Cr mr r1) (hR : Rep (-1) m1 g ρ') (hT1 : TxS m1 g) (hT2 : TxS m1 (g + 10)) (e1 : m1 0 0 1 = N') (e2 : m1 0 0 2 = fl') (e3 : m1 0 0 3 = st') (hK : MkK m1 r1 ρ') (hp : PpK m1 ρ' ∧ (m1 0 70 10 ≠ 0 → ρ' 17 ≠ 0)) : HC G g s i0 i1 ρ' t N' fl' st' σ0 σ1 m1 n r1 := by
  have hg4 := h.own.g4
  have hgl := h.lt
  have hI : ∀ (x : Nat), x < G → x ≠ g → ∀ a b, rlS x a b = true → m1 a b = mi a b := fun x h1 h2 a b z => hg.row (fun k => by
    have := pAll_im (g := g) (by omega) (by omega) h2 z
    cases hb : P a b k with
    | false => rfl
    | true => rw [hP a b k hb] at this; cases this)
  obtain ⟨⟨a1, a2, a3, a4⟩, -, ⟨b1, -, -, -⟩, ⟨c1, c2⟩, -, -⟩ := h
  refine ⟨⟨hr.lay a1, a2.cr hr, a3, ?_⟩, ⟨hR, hT1, hT2⟩, ⟨?_, e1, e2, e3⟩, ⟨c1.mv (fun x hx => hI x (a2.2.2.2.2.2.2.1 x hx).1 (a2.2.2.2.2.2.2.1 x hx).2.1), c2.mv (fun x hx => hI x (a2.2.2.2.2.2.2.2.1 x hx).1 (a2.2.2.2.2.2.2.2.1 x hx).2.1)⟩, hK, hp⟩
  · refine a4.cg hg4.1 hg4.2 a3 hg (fun a b k hu => ?_) (fun a b k hu => ?_)
    · have := pAll_unm hg4.1 hg4.2 hgl hu
      cases hb : P a b k with
      | false => rfl
      | true => rw [hP a b k hb] at this; cases this
    · refine hr.at (fun z => ?_) (fun z => ?_)
      · unfold unm at hu; omega
      · unfold unm at hu; omega
  · rw [← b1]
    exact hg.row (fun k => by
      cases hb : P 0 1 k with
      | false => rfl
      | true => have := hP 0 1 k hb; rw [pAll_t] at this; cases this)
/-- a question: only readers' cells change -/
theorem HC.ask {P : Nat → Nat → Int → Bool} (h : HC G g s i0 i1 ρ t N fl st σ0 σ1 mi n mr) (hg : Cg P mi m1) (hP : ∀ a b k, P a b k = true → 50 ≤ b ∧ b ≤ 56) (hr : Cr mr r1) : HC G g s i0 i1 ρ t N fl st σ0 σ1 m1 n r1 := by
  have hb : ∀ a b, b < 50 ∨ 56 < b → m1 a b = mi a b := fun a b z => hg.row (fun k => by
    cases hb : P a b k with
    | false => rfl
    | true => have := hP a b k hb; omega)
  obtain ⟨-, ⟨x1, x2, x3⟩, ⟨-, y2, y3, y4⟩, -, z1, z2⟩ := id h
  refine h.mv hg (fun a b k z => by have := hP a b k z; simp [pAll]; omega) hr (x1.far (fun a b _ z => hb a b (by omega))) (x2.mv (fun b _ z => hb _ b (by omega))) (x3.mv (fun b _ z => hb _ b (by omega))) (by rw [hb 0 0 (by omega)]; exact y2) (by rw [hb 0 0 (by omega)]; exact y3) (by rw [hb 0 0 (by omega)]; exact y4) ?_ ?_
  · unfold MkK at *
    rw [hb 0 60 (by omega)]
    rcases z1 with w | ⟨a1, a2, a3, a4, a5⟩
    · exact Or.inl w
    · refine Or.inr ⟨a1, hr.m2 a2, ?_, ?_, fun j u v => ?_⟩
      · unfold MB at *
        rw [hb 0 64 (by omega), hb 0 65 (by omega), hb 0 60 (by omega)]; exact a3
      · intro i u v
        show m1 0 63 i = _
        rw [hb 0 63 (by omega)]; exact a4 i u v
      · rw [hb 0 62 (by omega)]
        have := a5 j u v
        unfold MkV ML at *
        rcases this with w | ⟨C, P, K, b1, b2, b3⟩
        · exact Or.inl w
        · exact Or.inr ⟨C, P, K, b1, by rw [hb C 57 (by omega), hb C 58 (by omega)]; exact b2, b3⟩
  · unfold PpK at *
    rw [hb 0 70 (by omega), hb 0 73 (by omega)]
    exact z2
theorem HC.far (h : HC G g s i0 i1 ρ t N fl st σ0 σ1 mi n mr) (e : ∀ a b, b < 80 → m1 a b = mi a b) : HC G g s i0 i1 ρ t N fl st σ0 σ1 m1 n mr := by
  have hg4 := h.own.g4
  obtain ⟨⟨a1, a2, a3, a4⟩, ⟨x1, x2, x3⟩, ⟨y1, y2, y3, y4⟩, ⟨c1, c2⟩, z1, z2⟩ := h
  have hs : ∀ x a b, rlS x a b = true → m1 a b = mi a b := fun x a b z => e a b (by simp [rlS] at z; omega)
  refine ⟨⟨a1, a2, a3, fun i h1 h2 k => ?_⟩, ⟨x1.mv (hs g), x2.mv (fun b _ z => e _ b (by omega)), x3.mv (fun b _ z => e _ b (by omega))⟩, ⟨by rw [e 0 1 (by omega)]; exact y1, by rw [e 0 0 (by omega)]; exact y2, by rw [e 0 0 (by omega)]; exact y3, by rw [e 0 0 (by omega)]; exact y4⟩, ⟨c1.mv (fun x _ => hs x), c2.mv (fun x _ => hs x)⟩, ?_, ?_⟩
  · have hu := nm_unm hg4.1 hg4.2 a3 h1 h2
    rw [e _ _ (by unfold unm at hu; omega)]
    exact a4 i h1 h2 k
  · unfold MkK at *
    rw [e 0 60 (by omega)]
    rcases z1 with w | ⟨a1, a2, a3, a4, a5⟩
    · exact Or.inl w
    · refine Or.inr ⟨a1, a2, ?_, ?_, fun j u v => ?_⟩
      · unfold MB at *
        rw [e 0 64 (by omega), e 0 65 (by omega), e 0 60 (by omega)]; exact a3
      · intro i u v
        show m1 0 63 i = _
        rw [e 0 63 (by omega)]; exact a4 i u v
      · rw [e 0 62 (by omega)]
        have := a5 j u v
        unfold MkV ML at *
        rcases this with w | ⟨C, P, K, b1, b2, b3⟩
        · exact Or.inl w
        · exact Or.inr ⟨C, P, K, b1, by rw [e C 57 (by omega), e C 58 (by omega)]; exact b2, b3⟩
  · unfold PpK at *
    rw [e 0 70 (by omega), e 0 73 (by omega)]
    exact z2
theorem HC.ch {p : Nat → Int → Bool} (h : HC G g s i0 i1 ρ t N fl st σ0 σ1 mi n mr) (hg : Ch p mi m1) (hp : ∀ j k, p j k = true → 80 ≤ j) : HC G g s i0 i1 ρ t N fl st σ0 σ1 m1 n mr := h.far (fun a b hb => funext fun k => (hg a b k).elim (fun z => absurd (hp b k z.2) (by omega)) id)
theorem RIm.mv {k : Int} {σ : Option (Int → Int)} (h : RIm mi k σ) (e3 : m1 0 83 = mi 0 83) (e4 : m1 0 84 = mi 0 84) : RIm m1 k σ := by
  unfold RIm at *
  rw [e3, e4]
  exact h
theorem HR.mv (h : HR ρ t N fl st σ0 σ1 mi) (e : ∀ b, 80 ≤ b → m1 0 b = mi 0 b) : HR ρ t N fl st σ0 σ1 m1 := by
  obtain ⟨a1, a2, ⟨a3, a4, a5⟩, ⟨b1, b2⟩, c, d⟩ := h
  have e80 := e 80 (by omega)
  refine ⟨by rw [e 81 (by omega)]; exact a1, by rw [e 86 (by omega)]; exact a2, by rw [e80]; exact ⟨a3, a4, a5⟩, ⟨b1.mv (e 83 (by omega)) (e 84 (by omega)), b2.mv (e 83 (by omega)) (e 84 (by omega))⟩, by rw [e80]; exact c, fun m x y z => ?_⟩
  rw [e80] at z
  have := d m x y z
  unfold LkY at *
  rw [e80, e 93 (by omega)]
  exact this
theorem HR.cg {P : Nat → Nat → Int → Bool} (h : HR ρ t N fl st σ0 σ1 mi) (hg : Cg P mi m1) (hP : ∀ b k, 80 ≤ b → P 0 b k = false) : HR ρ t N fl st σ0 σ1 m1 := h.mv (fun b hb => hg.row (fun k => hP b k hb))
/-- what most calls of the reference leave alone -/
def qOk (p : Nat → Int → Bool) : Prop := (∀ k, p 83 k = false ∧ p 84 k = false ∧ p 86 k = false) ∧ p 80 11 = false ∧ p 80 16 = false ∧ p 80 25 = false
theorem HR.ch {p : Nat → Int → Bool} (h : HR ρ t N fl st σ0 σ1 mi) (hg : Ch p mi m1) (hp : qOk p) (e81 : m1 0 81 = ρ') (e1 : m1 0 80 1 = st') (hk : ∀ m, 1 ≤ m → m ≤ 3 → m1 0 80 33 = m → LkY ρ' m m1) : HR ρ' t N fl st' σ0 σ1 m1 := by
  obtain ⟨a1, a2, ⟨a3, a4, a5⟩, ⟨b1, b2⟩, c, d⟩ := h
  obtain ⟨p1, p2, p3, p4⟩ := hp
  have e83 := hg.row (j := 83) (fun k => (p1 k).1)
  have e84 := hg.row (j := 84) (fun k => (p1 k).2.1)
  exact ⟨e81, by rw [hg.row (j := 86) (fun k => (p1 k).2.2)]; exact a2, ⟨by rw [hg.at p2]; exact a3, by rw [hg.at p3]; exact a4, e1⟩, ⟨b1.mv e83 e84, b2.mv e83 e84⟩, by rw [hg.at p4]; exact c, hk⟩
/-- a question to the reference -/
theorem HR.ask {p : Nat → Int → Bool} (h : HR ρ t N fl st σ0 σ1 mi) (hg : Ch p mi m1) (hp : qOk p) (h2 : ∀ k, p 81 k = false ∧ p 93 k = false) (h3 : p 80 33 = false ∧ p 80 34 = false ∧ p 80 35 = false ∧ p 80 36 = false) (e1 : m1 0 80 1 = st') : HR ρ t N fl st' σ0 σ1 m1 := by
  refine h.ch hg hp (by rw [hg.row (j := 81) (fun k => (h2 k).1)]; exact h.1) e1 (fun m x y z => ?_)
  rw [hg.at h3.1] at z
  have := h.2.2.2.2.2 m x y z
  unfold LkY at *
  rw [hg.at h3.2.1, hg.at h3.2.2.1, hg.at h3.2.2.2, hg.row (j := 93) (fun k => (h2 k).2)]
  exact this
theorem HP.mono {B B' : Int} (h : HP B ρ t N σ0 σ1) (hB : B ≤ B') : HP B' ρ t N σ0 σ1 := ⟨h.1.mono hB, h.2.1, fun τ e => (h.2.2.1 τ e).mono hB, fun τ e => (h.2.2.2 τ e).mono hB⟩
theorem HP.row {B B' : Int} (h : HP B ρ t N σ0 σ1) (hB : B ≤ B') (hI : Inv B' ρ') : HP B' ρ' t N σ0 σ1 := ⟨hI, h.2.1, fun τ e => (h.2.2.1 τ e).mono hB, fun τ e => (h.2.2.2 τ e).mono hB⟩
end HCC
