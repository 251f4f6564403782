/-! mends: what they are, what they cost, their order -/
abbrev PR : Type := Int × Int
/-- the row with cells changed -/
def rowA (ρ : Int → Int) (A : List PR) : Int → Int := A.foldl (fun r q => ud r (30 + q.1) q.2) ρ
def Pth (ρ : Int → Int) (A : List PR) : Prop := (A.map Prod.fst).Nodup ∧ ∀ q ∈ A, 0 ≤ q.1 ∧ q.1 < 24 ∧ biC q.1 q.2 = 1 ∧ q.2 ≠ ρ (30 + q.1)
def Hold (ρ : Int → Int) (A : List PR) : Prop := ∀ l, 0 ≤ l → l < ρ 16 → valA (clR (rowA ρ A)) (lawC ρ l) = 1
def Srt (L : List PR) : Prop := L.Pairwise (fun a b => a.1 < b.1)
def Mnd (ρ : Int → Int) (L : List PR) : Prop := Srt L ∧ Pth ρ L ∧ Hold ρ L
/-- a line wrote the cell not long ago -/
def lateF (ρ : Int → Int) (c : Int) : Nat → Bool
  | 0 => false
  | w + 1 => lateF ρ c w || decide (ρ (646 + 7 * (w : Int) + 2) = c ∧ 0 ≤ ρ (646 + 7 * (w : Int) + 1) ∧ ρ 0 - 8 ≤ ρ (646 + 7 * (w : Int)))
def prR (ρ : Int → Int) (c v : Int) : Int := max 1 (ρ (102 + knd c) - (if lateF ρ c (ρ 8).toNat = true then 1 else 0) - (if ρ 14 = 1 ∧ ρ (78 + c) = v then 1 else 0))
def prc (ρ : Int → Int) (A : List PR) : Int := sumL (A.map fun q => prR ρ q.1 q.2)
def Least (ρ : Int → Int) (m P C : Int) : Prop := (∃ L, Mnd ρ L ∧ (L.length : Int) = C ∧ prc ρ L = P) ∧ C ≤ m ∧ ∀ L, Mnd ρ L → (L.length : Int) ≤ m → P < prc ρ L ∨ (P = prc ρ L ∧ C ≤ L.length)
def NoMend (ρ : Int → Int) (m : Int) : Prop := ∀ L, Mnd ρ L → m < L.length
def Keys (f : List PR → Int) (ρ : Int → Int) (P C : Int) (K : List Int) : Prop := K.Pairwise (· < ·) ∧ ∀ k, k ∈ K ↔ ∃ L, Mnd ρ L ∧ (L.length : Int) = C ∧ prc ρ L = P ∧ f L = k
def key3 (L : List PR) : Int := L.foldl (fun k q => k * 300 + (11 * q.1 + q.2 + 2)) 0
theorem prR_1 {ρ : Int → Int} {c v : Int} : 1 ≤ prR ρ c v := by unfold prR; omega
theorem rowA_snoc {ρ : Int → Int} {A : List PR} {q : PR} : rowA ρ (A ++ [q]) = ud (rowA ρ A) (30 + q.1) q.2 := by
  unfold rowA
  rw [List.foldl_append]
  rfl
theorem rowA_nil {ρ : Int → Int} : rowA ρ [] = ρ := rfl
theorem rowA_not : ∀ {A : List PR} {ρ : Int → Int} {k : Int}, (∀ q ∈ A, 30 + q.1 ≠ k) → rowA ρ A k = ρ k
  | [], _, _, _ => rfl
  | q :: A, ρ, k, h => by
    show rowA (ud ρ (30 + q.1) q.2) A k = _
    rw [rowA_not (fun r hr => h r (List.mem_cons_of_mem _ hr)), ud_ne (Ne.symm (h q List.mem_cons_self))]
theorem rowA_mem : ∀ {A : List PR} {ρ : Int → Int} {c v : Int}, (A.map Prod.fst).Nodup → (c, v) ∈ A → rowA ρ A (30 + c) = v
  | q :: A, ρ, c, v, hn, h => by
    show rowA (ud ρ (30 + q.1) q.2) A (30 + c) = _
    rw [List.map_cons, List.nodup_cons] at hn
    rcases List.mem_cons.mp h with e | e
    · rw [← e]
      rw [rowA_not (fun r hr => ?_), ud_at]
      intro z
      refine hn.1 (List.mem_map.mpr ⟨r, hr, ?_⟩)
      rw [← e]
      show r.1 = c
      omega
    · exact rowA_mem hn.2 e
theorem rowA_off {ρ : Int → Int} {A : List PR} (h : Pth ρ A) {k : Int} (hk : k < 30 ∨ 54 ≤ k) : rowA ρ A k = ρ k := rowA_not fun q hq => by
  have := h.2 q hq
  omega
/-- rows with the same changes are the same -/
theorem rowA_same {ρ : Int → Int} {A L : List PR} (hA : (A.map Prod.fst).Nodup) (hL : (L.map Prod.fst).Nodup) (h : ∀ q, q ∈ A ↔ q ∈ L) : rowA ρ A = rowA ρ L := by
  funext k
  by_cases e : ∃ q ∈ A, 30 + q.1 = k
  · obtain ⟨q, hq, rfl⟩ := e
    rw [rowA_mem (c := q.1) (v := q.2) hA hq, rowA_mem (c := q.1) (v := q.2) hL ((h q).mp hq)]
  · rw [rowA_not (fun q hq z => e ⟨q, hq, z⟩), rowA_not (fun q hq z => e ⟨q, (h q).mpr hq, z⟩)]
theorem VC_rowA {ρ : Int → Int} {A : List PR} (hV : VC (clR ρ)) (h : Pth ρ A) : VC (clR (rowA ρ A)) := hV.wr fun i h0 h1 => by
  show rowA ρ A (30 + i) = ρ (30 + i) ∨ biC i (rowA ρ A (30 + i)) = 1
  by_cases e : ∃ q ∈ A, q.1 = i
  · obtain ⟨q, hq, rfl⟩ := e
    right
    rw [rowA_mem (c := q.1) (v := q.2) h.1 hq]
    exact (h.2 q hq).2.2.1
  · left
    exact rowA_not (fun q hq z => e ⟨q, hq, by omega⟩)
/-! lists of pairs -/
theorem sumL_perm {L L' : List Int} (h : L.Perm L') : sumL L = sumL L' := by
  induction h with
  | nil => rfl
  | cons x _ ih => rw [sumL, sumL, ih]
  | swap x y l => rw [sumL, sumL, sumL, sumL]; omega
  | trans _ _ ih1 ih2 => exact ih1.trans ih2
theorem prc_perm {ρ : Int → Int} {L L' : List PR} (h : L.Perm L') : prc ρ L = prc ρ L' := sumL_perm (h.map _)
theorem nodup_of_fst {L : List PR} (h : (L.map Prod.fst).Nodup) : L.Nodup := by
  unfold List.Nodup at *
  rw [List.pairwise_map] at h
  exact h.imp (fun a b => a (by rw [b]))
/-- part of a mend: fewer cells, a lower price -/
theorem prc_sub {ρ : Int → Int} : ∀ {A L : List PR}, A.Nodup → L.Nodup → (∀ q ∈ A, q ∈ L) → A.length ≤ L.length ∧ prc ρ A + (L.length - A.length) ≤ prc ρ L ∧ (A.length = L.length → ∀ q ∈ L, q ∈ A)
  | [], L, _, hL, _ => by
    refine ⟨Nat.zero_le _, ?_, fun h q hq => ?_⟩
    · have : ∀ L : List PR, (L.length : Int) ≤ prc ρ L := by
        intro L
        induction L with
        | nil => exact Int.le_refl _
        | cons q L ih =>
          have := prR_1 (ρ := ρ) (c := q.1) (v := q.2)
          show ((L.length + 1 : Nat) : Int) ≤ prR ρ q.1 q.2 + prc ρ L
          omega
      have := this L
      show (0 : Int) + ((L.length : Int) - ((0 : Nat) : Int)) ≤ prc ρ L
      omega
    · cases L with
      | nil => exact hq
      | cons r L => cases h
  | q :: A, L, hA, hL, h => by
    have hq := h q List.mem_cons_self
    have hp := List.perm_cons_erase hq
    rw [List.nodup_cons] at hA
    have hA2 : ∀ r ∈ A, r ∈ L.erase q := fun r hr => (hL.mem_erase_iff).mpr ⟨fun e => hA.1 (e ▸ hr), h r (List.mem_cons_of_mem _ hr)⟩
    have ih := prc_sub (ρ := ρ) hA.2 (hL.erase q) hA2
    have e1 := prc_perm (ρ := ρ) hp
    have e2 := hp.length_eq
    have e3 : prc ρ (q :: L.erase q) = prR ρ q.1 q.2 + prc ρ (L.erase q) := rfl
    have e4 : prc ρ (q :: A) = prR ρ q.1 q.2 + prc ρ A := rfl
    rw [List.length_cons] at e2 ⊢
    refine ⟨by omega, by omega, fun hl r hr => ?_⟩
    rcases List.mem_cons.mp (hp.mem_iff.mp hr) with z | z
    · rw [z]; exact List.mem_cons_self
    · exact List.mem_cons_of_mem _ (ih.2.2 (by omega) r z)
/-- sorted lists with the same members are the same -/
theorem srt_eq {α : Type} (f : α → Int) : ∀ {L L' : List α}, L.Pairwise (fun a b => f a < f b) → L'.Pairwise (fun a b => f a < f b) → (∀ x, x ∈ L ↔ x ∈ L') → L = L'
  | [], [], _, _, _ => rfl
  | [], y :: L', _, _, h => absurd ((h y).mpr List.mem_cons_self) (by simp)
  | x :: L, [], _, _, h => absurd ((h x).mp List.mem_cons_self) (by simp)
  | x :: L, y :: L', h1, h2, h => by
    rw [List.pairwise_cons] at h1 h2
    have e : x = y := by
      rcases List.mem_cons.mp ((h x).mp List.mem_cons_self) with z | z
      · exact z
      · rcases List.mem_cons.mp ((h y).mpr List.mem_cons_self) with w | w
        · exact w.symm
        · have := h2.1 x z
          have := h1.1 y w
          omega
    subst e
    rw [srt_eq f h1.2 h2.2 (fun z => ?_)]
    have k := h z
    rw [List.mem_cons, List.mem_cons] at k
    constructor
    · intro hz
      rcases k.mp (Or.inr hz) with w | w
      · have := h1.1 z hz; rw [w] at this; omega
      · exact w
    · intro hz
      rcases k.mpr (Or.inr hz) with w | w
      · have := h2.1 z hz; rw [w] at this; omega
      · exact w
def ins1 (q : PR) : List PR → List PR
  | [] => [q]
  | r :: L => if q.1 < r.1 then q :: r :: L else r :: ins1 q L
def srt : List PR → List PR
  | [] => []
  | q :: A => ins1 q (srt A)
theorem ins1_perm {q : PR} : ∀ L : List PR, (ins1 q L).Perm (q :: L)
  | [] => List.Perm.refl _
  | r :: L => by
    rw [ins1]
    split
    · exact List.Perm.refl _
    · exact ((ins1_perm L).cons r).trans (List.Perm.swap q r L)
theorem srt_perm : ∀ A : List PR, (srt A).Perm A
  | [] => List.Perm.refl _
  | q :: A => (ins1_perm _).trans ((srt_perm A).cons q)
theorem ins1_srt {q : PR} : ∀ L : List PR, Srt L → (∀ r ∈ L, r.1 ≠ q.1) → Srt (ins1 q L)
  | [], _, _ => by unfold ins1 Srt; simp
  | r :: L, h, hn => by
    unfold Srt at *
    rw [List.pairwise_cons] at h
    have hr := hn r List.mem_cons_self
    rw [ins1]
    split
    · rename_i e
      rw [List.pairwise_cons]
      refine ⟨fun x hx => ?_, List.pairwise_cons.mpr h⟩
      rcases List.mem_cons.mp hx with z | z
      · rw [z]; exact e
      · have := h.1 x z; omega
    · rw [List.pairwise_cons]
      refine ⟨fun x hx => ?_, ins1_srt L h.2 (fun x hx => hn x (List.mem_cons_of_mem _ hx))⟩
      rcases List.mem_cons.mp ((ins1_perm L).mem_iff.mp hx) with z | z
      · rw [z]; omega
      · exact h.1 x z
theorem srt_srt : ∀ A : List PR, (A.map Prod.fst).Nodup → Srt (srt A)
  | [], _ => List.Pairwise.nil
  | q :: A, h => by
    rw [List.map_cons, List.nodup_cons] at h
    refine ins1_srt _ (srt_srt A h.2) (fun r hr z => h.1 (List.mem_map.mpr ⟨r, (srt_perm A).mem_iff.mp hr, z⟩))
theorem Srt.nodup {L : List PR} (h : Srt L) : (L.map Prod.fst).Nodup := by
  unfold List.Nodup
  rw [List.pairwise_map]
  exact h.imp (fun a => by omega)
theorem Pth.perm {ρ : Int → Int} {A L : List PR} (h : Pth ρ A) (hp : L.Perm A) : Pth ρ L := ⟨(hp.map Prod.fst).nodup_iff.mpr h.1, fun q hq => h.2 q (hp.mem_iff.mp hq)⟩
theorem Pth.snoc {ρ : Int → Int} {A : List PR} {c v : Int} (h : Pth ρ A) (hc : ∀ q ∈ A, q.1 ≠ c) (h0 : 0 ≤ c) (h1 : c < 24) (hb : biC c v = 1) (hv : v ≠ ρ (30 + c)) : Pth ρ (A ++ [(c, v)]) := by
  refine ⟨?_, fun q hq => ?_⟩
  · rw [List.map_append, List.nodup_append]
    refine ⟨h.1, by simp, fun x hx y hy => ?_⟩
    obtain ⟨q, hq, rfl⟩ := List.mem_map.mp hx
    simp at hy
    rw [hy]
    exact hc q hq
  · rcases List.mem_append.mp hq with z | z
    · exact h.2 q z
    · rw [List.mem_singleton] at z
      rw [z]
      exact ⟨h0, h1, hb, hv⟩
/-- a path on which all laws hold is a mend, in order -/
theorem Mnd_srt {ρ : Int → Int} {A : List PR} (h : Pth ρ A) (hh : Hold ρ A) : Mnd ρ (srt A) := by
  have hp := srt_perm A
  refine ⟨srt_srt A h.1, h.perm hp, fun l h0 h1 => ?_⟩
  rw [rowA_same (h.perm hp).1 h.1 (fun q => hp.mem_iff)]
  exact hh l h0 h1
/-- a broken law wants a change of a cell that it asks for -/
theorem broken_asks {ρ : Int → Int} {A L : List PR} {l : Int} (hV : VC (clR ρ)) (hA : Pth ρ A) (hL : Mnd ρ L) (hs : ∀ q ∈ A, q ∈ L) (h0 : 0 ≤ l) (h1 : l < ρ 16) (hw : Law (lawC ρ l)) (hb : valA (clR (rowA ρ A)) (lawC ρ l) = 0) : ∃ q ∈ L, q.1 ∈ askA (clR (rowA ρ A)) (lawC ρ l) ∧ ∀ r ∈ A, r.1 ≠ q.1 := by
  refine Classical.byContradiction fun hn => ?_
  have hno : ∀ q ∈ L, q.1 ∈ askA (clR (rowA ρ A)) (lawC ρ l) → ∃ r ∈ A, r.1 = q.1 := fun q hq ha => Classical.byContradiction fun z => hn ⟨q, hq, ha, fun r hr e => z ⟨r, hr, e⟩⟩
  have hVA := VC_rowA hV hA
  have hag : ∀ x ∈ askA (clR (rowA ρ A)) (lawC ρ l), clR (rowA ρ L) x = clR (rowA ρ A) x := by
    intro x hx
    show rowA ρ L (30 + x) = rowA ρ A (30 + x)
    by_cases e : ∃ q ∈ L, q.1 = x
    · obtain ⟨q, hq, rfl⟩ := e
      obtain ⟨r, hr, e2⟩ := hno q hq hx
      have hrL := hs r hr
      rw [rowA_mem (c := q.1) (v := q.2) hL.2.1.1 hq]
      have : rowA ρ L (30 + r.1) = r.2 := rowA_mem (c := r.1) (v := r.2) hL.2.1.1 hrL
      rw [e2, rowA_mem (c := q.1) (v := q.2) hL.2.1.1 hq] at this
      rw [← e2, rowA_mem (c := r.1) (v := r.2) hA.1 hr, this]
    · rw [rowA_not (fun q hq z => e ⟨q, hq, by omega⟩), rowA_not (fun q hq z => e ⟨q, hs q hq, by omega⟩)]
  have := hL.2.2 l h0 h1
  have e2 := law_loc hVA hw hag
  rw [e2.1, hb] at this
  omega
