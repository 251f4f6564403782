/-! the class: the tree of mends, what is told -/
theorem prc_subC {ρ : Int → Int} {ch : Int} (hch : ∀ c v, 0 ≤ c → c < 24 → -1 ≤ v → ch ≤ prR ρ c v) : ∀ {A L : List PR}, A.Nodup → L.Nodup → (∀ q ∈ L, okP q) → (∀ q ∈ A, q ∈ L) → prc ρ A + ch * (L.length - A.length) ≤ prc ρ L
  | [], L, _, hL, hq, _ => by
    have : ∀ L : List PR, (∀ q ∈ L, okP q) → ch * (L.length : Int) ≤ prc ρ L := by
      intro L
      induction L with
      | nil => intro _; rw [List.length_nil]; show ch * ((0 : Nat) : Int) ≤ 0; omega
      | cons q L ih =>
        intro hq
        have ho := hq q List.mem_cons_self
        unfold okP at ho
        have := hch q.1 q.2 (by omega) (by omega) (by omega)
        have i2 := ih (fun r hr => hq r (List.mem_cons_of_mem _ hr))
        show ch * ((L.length + 1 : Nat) : Int) ≤ prR ρ q.1 q.2 + prc ρ L
        rw [Int.natCast_add, Int.mul_add]
        omega
    have := this L hq
    show (0 : Int) + ch * ((L.length : Int) - ((0 : Nat) : Int)) ≤ prc ρ L
    rw [Int.zero_add, show (L.length : Int) - ((0 : Nat) : Int) = (L.length : Int) by omega]
    exact this
  | q :: A, L, hA, hL, hk, h => by
    have hq := h q List.mem_cons_self
    have hp := List.perm_cons_erase hq
    rw [List.nodup_cons] at hA
    have hA2 : ∀ r ∈ A, r ∈ L.erase q := fun r hr => (hL.mem_erase_iff).mpr ⟨fun e => hA.1 (e ▸ hr), h r (List.mem_cons_of_mem _ hr)⟩
    have ih := prc_subC hch hA.2 (hL.erase q) (fun r hr => hk r (List.mem_of_mem_erase hr)) hA2
    have e1 := prc_perm (ρ := ρ) hp
    have e2 := hp.length_eq
    have e3 : prc ρ (q :: L.erase q) = prR ρ q.1 q.2 + prc ρ (L.erase q) := rfl
    have e4 : prc ρ (q :: A) = prR ρ q.1 q.2 + prc ρ A := rfl
    rw [List.length_cons] at e2 ⊢
    rw [show (L.length : Int) - ((A.length + 1 : Nat) : Int) = ((L.erase q).length : Int) - (A.length : Int) by omega]
    omega
theorem key5_inj {k : Nat} {L L' : List PR} (h : L.length = k) (h' : L'.length = k) (hq : ∀ q ∈ L, okP q) (hq' : ∀ q ∈ L', okP q) (e : key5 L = key5 L') : L = L' := key3_inj k h h' hq hq' ((key_lt k h h' hq hq').2.mpr e)
theorem srt_len {a b : Int} : ∀ {K : List Int}, K.Pairwise (· < ·) → (∀ k ∈ K, a ≤ k ∧ k < b) → a ≤ b → (K.length : Int) ≤ b - a
  | [], _, _, h => by show ((0 : Nat) : Int) ≤ _; omega
  | x :: K, hp, hr, h => by
    rw [List.pairwise_cons] at hp
    have hx := hr x List.mem_cons_self
    have := srt_len (a := x + 1) (b := b) hp.2 (fun k hk => ⟨by have := hp.1 k hk; omega, (hr k (List.mem_cons_of_mem _ hk)).2⟩) (by omega)
    rw [List.length_cons]
    omega
/-- mends of k cells that hold a path and change no closed cell else -/
def Ts (ρ : Int → Int) (k : Nat) (A : List PR) (F : Int) (L : List PR) : Prop := Mnd ρ L ∧ L.length = k ∧ (∀ q ∈ A, q ∈ L) ∧ ∀ q ∈ L, q ∉ A → tB F q.1.toNat = false
/-- those that change a cell -/
def Tc (ρ : Int → Int) (k : Nat) (A : List PR) (F c : Int) (L : List PR) : Prop := Mnd ρ L ∧ L.length = k ∧ (∀ q ∈ A, q ∈ L) ∧ (∃ v, (c, v) ∈ L) ∧ ∀ q ∈ L, q ∉ A → q.1 ≠ c → tB F q.1.toNat = false
/-- what is told: the cheapest of X, if no dearer than lim0 -/
def Tol (ρ : Int → Int) (k : Nat) (lim0 : Int) (X : List PR → Prop) (lim P : Int) (K : List Int) : Prop := lim ≤ lim0 ∧ (∀ L, X L → Mnd ρ L ∧ L.length = k ∧ lim ≤ prc ρ L) ∧ (K = [] → lim = lim0) ∧ (K ≠ [] → P = lim) ∧ ∀ y, y ∈ K ↔ ∃ L, X L ∧ prc ρ L = lim ∧ key5 L = y
theorem Tol.iff {ρ : Int → Int} {k : Nat} {lim0 lim P : Int} {X X' : List PR → Prop} {K : List Int} (h : Tol ρ k lim0 X lim P K) (hx : ∀ L, X' L ↔ X L) : Tol ρ k lim0 X' lim P K := by
  have : X' = X := funext fun L => propext (hx L)
  rw [this]; exact h
theorem Tol.more {ρ : Int → Int} {k : Nat} {lim0 lim P : Int} {X X' : List PR → Prop} {K : List Int} (h : Tol ρ k lim0 X lim P K) (h1 : ∀ L, X L → X' L) (h2 : ∀ L, X' L → X L ∨ (Mnd ρ L ∧ L.length = k ∧ lim < prc ρ L)) : Tol ρ k lim0 X' lim P K := by
  obtain ⟨a, b, c, e, f⟩ := h
  refine ⟨a, fun L hL => ?_, c, e, fun y => ?_⟩
  · rcases h2 L hL with z | z
    · exact b L z
    · exact ⟨z.1, z.2.1, Int.le_of_lt z.2.2⟩
  · rw [f y]
    constructor
    · rintro ⟨L, z1, z2⟩; exact ⟨L, h1 L z1, z2⟩
    · rintro ⟨L, z1, z2, z3⟩
      rcases h2 L z1 with z | z
      · exact ⟨L, z, z2, z3⟩
      · exact absurd z.2.2 (by omega)
theorem Mnd.ok {ρ : Int → Int} {L : List PR} (h : Mnd ρ L) : ∀ q ∈ L, okP q := h.2.1.ok
theorem Tol.len {ρ : Int → Int} {k : Nat} {lim0 lim P : Int} {X : List PR → Prop} {K : List Int} (h : Tol ρ k lim0 X lim P K) (hk : k ≤ 3) (hs : K.Pairwise (· < ·)) : (K.length : Int) ≤ 134217728 := by
  have := srt_len (a := 0) (b := 134217728) hs (fun y hy => by
    obtain ⟨L, z1, _, z3⟩ := (h.2.2.2.2 y).mp hy
    obtain ⟨m1, m2, _⟩ := h.2.1 L z1
    have := key5_bd k L hk m2 m1.ok
    rw [← z3]
    exact ⟨this.1, this.2.2.2.2⟩) (by decide)
  omega
/-- one mend more, no dearer -/
theorem Tol.add {ρ : Int → Int} {k : Nat} {lim0 lim P p : Int} {X : List PR → Prop} {K K' : List Int} {L : List PR} (h : Tol ρ k lim0 X lim P K) (hL : Mnd ρ L) (hl : L.length = k) (hp : prc ρ L = p) (hle : p ≤ lim) (hm : ∀ y, y ∈ K' ↔ y = key5 L ∨ (p = P ∧ y ∈ K)) : Tol ρ k lim0 (fun L' => X L' ∨ L' = L) p p K' := by
  obtain ⟨a, b, c, e, f⟩ := h
  refine ⟨by omega, fun L' hL' => ?_, fun z => ?_, fun _ => rfl, fun y => ?_⟩
  · rcases hL' with z | z
    · have := b L' z; exact ⟨this.1, this.2.1, by omega⟩
    · subst z; exact ⟨hL, hl, by omega⟩
  · have := (hm (key5 L)).mpr (Or.inl rfl)
    rw [z] at this; cases this
  · rw [hm y]
    constructor
    · rintro (z | ⟨z1, z2⟩)
      · exact ⟨L, Or.inr rfl, hp, z.symm⟩
      · have hne : K ≠ [] := fun w => by rw [w] at z2; cases z2
        obtain ⟨L', w1, w2, w3⟩ := (f y).mp z2
        exact ⟨L', Or.inl w1, by have := e hne; omega, w3⟩
    · rintro ⟨L', z1 | z1, z2, z3⟩
      · right
        have hb := (b L' z1).2.2
        have el : p = lim := by omega
        have hy := (f y).mpr ⟨L', z1, by omega, z3⟩
        have hne : K ≠ [] := fun w => by rw [w] at hy; cases hy
        exact ⟨by have := e hne; omega, hy⟩
      · left; subst z1; exact z3.symm
/-- the list in memory holds what is told -/
def Tm (ρ : Int → Int) (k : Nat) (lim0 : Int) (X : List PR → Prop) (mi : MI) : Prop := ∃ P K, ML mi k k P K ∧ Tol ρ k lim0 X (mi 0 60 10) P K
theorem ML.mv {mi mi' : MI} {k : Nat} {C P : Int} {K : List Int} (h : ML mi k C P K) (e7 : mi' k 57 = mi k 57) (e8 : mi' k 58 = mi k 58) : ML mi' k C P K := by
  unfold ML at *
  rw [e7, e8]; exact h
theorem Tm.mv {ρ : Int → Int} {k : Nat} {lim0 : Int} {X : List PR → Prop} {mi mi' : MI} (h : Tm ρ k lim0 X mi) (e7 : mi' k 57 = mi k 57) (e8 : mi' k 58 = mi k 58) (e10 : mi' 0 60 10 = mi 0 60 10) : Tm ρ k lim0 X mi' := by
  obtain ⟨P, K, h1, h2⟩ := h
  exact ⟨P, K, h1.mv e7 e8, by rw [e10]; exact h2⟩
theorem Tm.iff {ρ : Int → Int} {k : Nat} {lim0 : Int} {X X' : List PR → Prop} {mi : MI} (h : Tm ρ k lim0 X mi) (hx : ∀ L, X' L ↔ X L) : Tm ρ k lim0 X' mi := by
  obtain ⟨P, K, h1, h2⟩ := h
  exact ⟨P, K, h1, h2.iff hx⟩
theorem Tm.more {ρ : Int → Int} {k : Nat} {lim0 : Int} {X X' : List PR → Prop} {mi : MI} (h : Tm ρ k lim0 X mi) (h1 : ∀ L, X L → X' L) (h2 : ∀ L, X' L → X L ∨ (Mnd ρ L ∧ L.length = k ∧ mi 0 60 10 < prc ρ L)) : Tm ρ k lim0 X' mi := by
  obtain ⟨P, K, h3, h4⟩ := h
  exact ⟨P, K, h3, h4.more h1 h2⟩
/-- a mend that holds a path and a change of one cell more -/
theorem Ts_snoc {ρ : Int → Int} {k : Nat} {A : List PR} {F c v : Int} {L : List PR} (hF : tB F c.toNat = true) : Ts ρ k (A ++ [(c, v)]) F L ↔ Tc ρ k A F c L ∧ (c, v) ∈ L := by
  constructor
  · rintro ⟨h1, h2, h3, h4⟩
    have hcv : (c, v) ∈ L := h3 _ (by simp)
    refine ⟨⟨h1, h2, fun q hq => h3 q (List.mem_append_left _ hq), ⟨v, hcv⟩, fun q hq hn hc => h4 q hq (fun z => ?_)⟩, hcv⟩
    rcases List.mem_append.mp z with z | z
    · exact hn z
    · rw [List.mem_singleton] at z; exact hc (by rw [z])
  · rintro ⟨⟨h1, h2, h3, h4, h5⟩, hcv⟩
    refine ⟨h1, h2, fun q hq => ?_, fun q hq hn => ?_⟩
    · rcases List.mem_append.mp hq with z | z
      · exact h3 q z
      · rw [List.mem_singleton] at z; rw [z]; exact hcv
    · rw [List.mem_append, List.mem_singleton, not_or] at hn
      refine h5 q hq hn.1 (fun e => hn.2 ?_)
      have a := rowA_mem (ρ := ρ) (c := q.1) (v := q.2) h1.2.1.1 hq
      have b := rowA_mem (ρ := ρ) (c := c) (v := v) h1.2.1.1 hcv
      rw [e, b] at a
      exact Prod.ext e a.symm
/-- at the last change there is one mend at most -/
theorem Ts_last {ρ : Int → Int} {k : Nat} {A : List PR} {F : Int} {L : List PR} (hP : Pth ρ A) (hk : A.length = k) : Ts ρ k A F L ↔ Hold ρ A ∧ L = srt A := by
  have hp := srt_perm A
  constructor
  · rintro ⟨h1, h2, h3, h4⟩
    have hs := (prc_sub (ρ := ρ) (nodup_of_fst hP.1) (nodup_of_fst h1.2.1.1) h3).2.2 (by omega)
    have hsame : ∀ q, q ∈ A ↔ q ∈ L := fun q => ⟨h3 q, hs q⟩
    refine ⟨fun l a b => ?_, ?_⟩
    · rw [rowA_same hP.1 h1.2.1.1 hsame]; exact h1.2.2 l a b
    · exact srt_eq Prod.fst h1.1 (srt_srt A hP.1) (fun q => by rw [← hsame q, hp.mem_iff])
  · rintro ⟨h1, rfl⟩
    have hm := Mnd_srt hP h1
    refine ⟨hm, by rw [hp.length_eq]; exact hk, fun q hq => hp.mem_iff.mpr hq, fun q hq hn => absurd (hp.mem_iff.mp hq) hn⟩
theorem Hold_brk {ρ : Int → Int} {A : List PR} (hV : VC (clR (rowA ρ A))) (hl : ∀ l, 0 ≤ l → l < ρ 16 → Law (lawC ρ l)) : Hold ρ A ↔ ∀ l, ¬ Brk ρ A l := by
  constructor
  · intro h l z
    have := h l z.1 z.2.1
    have := z.2.2
    omega
  · intro h l a b
    have := (law_ev hV (hl l a b)).2.1
    rcases this with z | z
    · exact absurd ⟨a, b, z⟩ (h l)
    · exact z
/-- every mend behind a path is found behind one of the cells to try -/
theorem Try_all {ρ : Int → Int} {k : Nat} {A : List PR} {F m : Int} (hV : VC (clR ρ)) (hP : Pth ρ A) (hl : ∀ l, 0 ≤ l → l < ρ 16 → Law (lawC ρ l)) (hk : A.length < k) (hT : Try ρ A F ((k : Int) - A.length) m) (hb : ∃ l, Brk ρ A l) {L : List PR} (h : Ts ρ k A F L) : ∃ q ∈ L, q ∉ A ∧ tB m q.1.toNat = true := by
  obtain ⟨l0, hl0⟩ := hb
  have hVA := VC_rowA hV hP
  have ask : ∀ l, Brk ρ A l → ∃ q ∈ L, q ∉ A ∧ (0 ≤ q.1 ∧ q.1 < 24) ∧ q.1 ∈ askA (clR (rowA ρ A)) (lawC ρ l) ∧ tB F q.1.toNat = false := fun l hB => by
    obtain ⟨q, hq, h1, h2⟩ := broken_asks hV hP h.1 h.2.2.1 hB.1 hB.2.1 (hl l hB.1 hB.2.1) hB.2.2
    have hn : q ∉ A := fun z => h2 q z rfl
    exact ⟨q, hq, hn, (law_ev hVA (hl l hB.1 hB.2.1)).2.2 q.1 h1, h1, h.2.2.2 q hq hn⟩
  rcases hT with ⟨_, z⟩ | ⟨e, z⟩ | ⟨_, l, hB, z⟩
  · exact absurd hl0 (z l0)
  · obtain ⟨q, hq, hn, hr, ha, hf⟩ := ask l0 hl0
    refine ⟨q, hq, hn, (z q.1.toNat (by omega)).mpr (fun l hB => ?_)⟩
    obtain ⟨q', hq', hn', hr', ha', hf'⟩ := ask l hB
    -- only one change is left
    have hA' : (A ++ [q]).Nodup := by
      rw [List.nodup_append]
      exact ⟨nodup_of_fst hP.1, by simp, fun x hx y hy => by rw [List.mem_singleton] at hy; rw [hy]; exact fun w => hn (w ▸ hx)⟩
    have hs := (prc_sub (ρ := ρ) hA' (nodup_of_fst h.1.2.1.1) (fun x hx => by
      rcases List.mem_append.mp hx with w | w
      · exact h.2.2.1 x w
      · rw [List.mem_singleton] at w; rw [w]; exact hq)).2.2 (by rw [List.length_append, h.2.1]; simp; omega) q' hq'
    have : q' = q := by
      rcases List.mem_append.mp hs with w | w
      · exact absurd w hn'
      · exact List.mem_singleton.mp w
    subst this
    rw [Int.toNat_of_nonneg hr.1]
    exact ⟨ha', hf'⟩
  · obtain ⟨q, hq, hn, hr, ha, hf⟩ := ask l hB
    refine ⟨q, hq, hn, (z q.1.toNat (by omega)).mpr ?_⟩
    rw [Int.toNat_of_nonneg hr.1]
    exact ⟨ha, hf⟩
