/-! one state more: references, images, again -/
theorem okI_dn {G j g : Nat} (h : okI (G + 1) j g) (hn : rlR G g j = false) : okI G j g := by
  unfold okI at *
  split at h <;> simp_all [rlR] <;> omega
def frS : List (Nat × Int × (Nat → Ad)) := [(5, 0, fun g => (g, 15)), (5, 1, fun g => (g, 20)), (5, 2, fun g => (g + 10, 20)), (5, 3, fun g => (g, 30)), (5, 4, fun g => (g, 40)), (5, 5, fun g => (g, 6)), (5, 6, fun g => (g, 7)), (5, 7, fun g => (g, 8)), (5, 8, fun g => (g, 9)), (5, 9, fun g => (g, 10)), (15, 0, fun g => (g, 16)), (20, 2, fun g => (g, 21)), (20, 3, fun g => (g, 22)), (20, 4, fun g => (g, 23)), (20, 5, fun g => (g, 24)), (20, 6, fun g => (g, 25)), (20, 7, fun g => (g, 26)), (20, 8, fun g => (g, 27)), (30, 3, fun g => (g, 31)), (30, 4, fun g => (g, 32)), (30, 5, fun g => (g, 33)), (30, 6, fun g => (g, 34)), (30, 7, fun g => (g, 35)), (30, 8, fun g => (g, 36)), (30, 9, fun g => (g, 37)), (30, 10, fun g => (g, 38)), (40, 3, fun g => (g, 41)), (40, 4, fun g => (g, 42)), (40, 5, fun g => (g, 43))]
theorem frS_is : frL.filter (fun q => q.1 == 5 || q.1 == 15 || q.1 == 20 || q.1 == 30 || q.1 == 40) = frS := rfl
theorem Lay.ext {G : Nat} {mr mr' : MR} (hL : Lay G mr) (hs : StL G mr') (hc : Cs G mr mr') : Lay (G + 1) mr' := by
  intro q hq g hg
  by_cases hn : rlR G g q.1 = true
  · obtain ⟨h5, h15, hA, hB, hJ, h40⟩ := hs
    have hm : q ∈ frS := by
      rw [← frS_is]
      refine List.mem_filter.mpr ⟨hq, ?_⟩
      simp [rlR] at hn
      simp
      omega
    simp only [frS, List.mem_cons, List.not_mem_nil, or_false] at hm
    rcases hm with e | e | e | e | e | e | e | e | e | e | e | e | e | e | e | e | e | e | e | e | e | e | e | e | e | e | e | e | e
    · subst e
      have z : g = G := by simp [rlR] at hn; omega
      subst z
      exact h5.1
    · subst e
      have z : g = G := by simp [rlR] at hn; omega
      subst z
      exact h5.2.1
    · subst e
      have z : g = G := by simp [rlR] at hn; omega
      subst z
      exact h5.2.2.1
    · subst e
      have z : g = G := by simp [rlR] at hn; omega
      subst z
      exact h5.2.2.2.1
    · subst e
      have z : g = G := by simp [rlR] at hn; omega
      subst z
      exact h5.2.2.2.2.1
    · subst e
      have z : g = G := by simp [rlR] at hn; omega
      subst z
      exact h5.2.2.2.2.2.1
    · subst e
      have z : g = G := by simp [rlR] at hn; omega
      subst z
      exact h5.2.2.2.2.2.2.1
    · subst e
      have z : g = G := by simp [rlR] at hn; omega
      subst z
      exact h5.2.2.2.2.2.2.2.1
    · subst e
      have z : g = G := by simp [rlR] at hn; omega
      subst z
      exact h5.2.2.2.2.2.2.2.2.1
    · subst e
      have z : g = G := by simp [rlR] at hn; omega
      subst z
      exact h5.2.2.2.2.2.2.2.2.2
    · subst e
      have z : g = G := by simp [rlR] at hn; omega
      subst z
      exact h15
    · subst e
      have hz : g = G ∨ g = G + 10 := by simp [rlR] at hn; omega
      rcases hz with z | z
      · subst z; exact hA.1
      · subst z; exact hB.1
    · subst e
      have hz : g = G ∨ g = G + 10 := by simp [rlR] at hn; omega
      rcases hz with z | z
      · subst z; exact hA.2.1
      · subst z; exact hB.2.1
    · subst e
      have hz : g = G ∨ g = G + 10 := by simp [rlR] at hn; omega
      rcases hz with z | z
      · subst z; exact hA.2.2.1
      · subst z; exact hB.2.2.1
    · subst e
      have hz : g = G ∨ g = G + 10 := by simp [rlR] at hn; omega
      rcases hz with z | z
      · subst z; exact hA.2.2.2.1
      · subst z; exact hB.2.2.2.1
    · subst e
      have hz : g = G ∨ g = G + 10 := by simp [rlR] at hn; omega
      rcases hz with z | z
      · subst z; exact hA.2.2.2.2.1
      · subst z; exact hB.2.2.2.2.1
    · subst e
      have hz : g = G ∨ g = G + 10 := by simp [rlR] at hn; omega
      rcases hz with z | z
      · subst z; exact hA.2.2.2.2.2.1
      · subst z; exact hB.2.2.2.2.2.1
    · subst e
      have hz : g = G ∨ g = G + 10 := by simp [rlR] at hn; omega
      rcases hz with z | z
      · subst z; exact hA.2.2.2.2.2.2
      · subst z; exact hB.2.2.2.2.2.2
    · subst e
      have z : g = G := by simp [rlR] at hn; omega
      subst z
      exact hJ.1
    · subst e
      have z : g = G := by simp [rlR] at hn; omega
      subst z
      exact hJ.2.1
    · subst e
      have z : g = G := by simp [rlR] at hn; omega
      subst z
      exact hJ.2.2.1
    · subst e
      have z : g = G := by simp [rlR] at hn; omega
      subst z
      exact hJ.2.2.2.1
    · subst e
      have z : g = G := by simp [rlR] at hn; omega
      subst z
      exact hJ.2.2.2.2.1
    · subst e
      have z : g = G := by simp [rlR] at hn; omega
      subst z
      exact hJ.2.2.2.2.2.1
    · subst e
      have z : g = G := by simp [rlR] at hn; omega
      subst z
      exact hJ.2.2.2.2.2.2.1
    · subst e
      have z : g = G := by simp [rlR] at hn; omega
      subst z
      exact hJ.2.2.2.2.2.2.2
    · subst e
      have z : g = G := by simp [rlR] at hn; omega
      subst z
      exact h40.1
    · subst e
      have z : g = G := by simp [rlR] at hn; omega
      subst z
      exact h40.2.1
    · subst e
      have z : g = G := by simp [rlR] at hn; omega
      subst z
      exact h40.2.2
  · have hf : rlR G g q.1 = false := by simpa using hn
    rw [(hc g q.1 q.2.1).resolve_left (by rw [hf]; decide)]
    exact hL q hq g (okI_dn hg hf)
theorem nm_blk0 : ∀ G, G < 3 → nm (130 + 37 * G) = (G + 1, 5) ∧ ∀ i, i < 36 → nm (131 + 37 * G + i) = (blkL (G + 1)).getD i (0, 999) := by decide +kernel
theorem nm_blk {G n : Nat} (h1 : 1 ≤ G) (h3 : G < 4) (hn : n = 93 + 37 * G) : nm n = (G, 5) ∧ (∀ i, i < 36 → nm (n + 1 + i) = (blkL G).getD i (0, 999)) ∧ n + 37 ≤ 241 := by
  have := nm_blk0 (G - 1) (by omega)
  rw [show 130 + 37 * (G - 1) = n by omega, show 131 + 37 * (G - 1) = n + 1 by omega, show G - 1 + 1 = G by omega] at this
  exact ⟨this.1, this.2, by omega⟩
/-- which state is whose: now, spare, images -/
def adO (s : Option Nat) : Option Ad := s.map (fun h => (h, 5))
def one (s : Option Nat) : Nat := match s with
  | none => 0
  | some _ => 1
def Own (G g : Nat) (s i0 i1 : Option Nat) (mr : MR) : Prop := mr 0 0 4 = some (g, 5) ∧ mr 0 0 5 = adO s ∧ mr 0 2 0 = adO i0 ∧ mr 0 2 1 = adO i1 ∧ g < G ∧ (∀ h, s = some h → h < G ∧ h ≠ g) ∧ (∀ h, i0 = some h → h < G ∧ h ≠ g ∧ s ≠ some h) ∧ (∀ h, i1 = some h → h < G ∧ h ≠ g ∧ s ≠ some h ∧ i0 ≠ some h) ∧ G = 1 + one s + one i0 + one i1
theorem one_le (s : Option Nat) : one s ≤ 1 := by cases s <;> simp [one]
theorem Own.g4 {G g : Nat} {s i0 i1 : Option Nat} {mr : MR} (h : Own G g s i0 i1 mr) : 1 ≤ G ∧ G ≤ 4 := by
  have h1 := h.2.2.2.2.2.2.2.2
  have := one_le s
  have := one_le i0
  have := one_le i1
  omega
theorem Own.mr {G g : Nat} {s i0 i1 : Option Nat} {mr mr' : MR} (h : Own G g s i0 i1 mr) (e1 : ∀ k, mr' 0 0 k = mr 0 0 k) (e2 : ∀ k, mr' 0 2 k = mr 0 2 k) : Own G g s i0 i1 mr' := by
  unfold Own at *
  rw [e1, e1, e2, e2]
  exact h
theorem Own.cs {G g x : Nat} {s i0 i1 : Option Nat} {mr mr' : MR} (h : Own G g s i0 i1 mr) (hc : Cs x mr mr') : Own G g s i0 i1 mr' := h.mr (fun k => (hc 0 0 k).resolve_left (by simp [rlR])) (fun k => (hc 0 2 k).resolve_left (by simp [rlR]))
theorem Own.cr {G g : Nat} {s i0 i1 : Option Nat} {mr mr' : MR} (h : Own G g s i0 i1 mr) (hc : Cr mr mr') : Own G g s i0 i1 mr' := h.mr (fun k => hc.at (by omega) (by omega)) (fun k => hc.at (by omega) (by omega))
