/-! the reference: the token in hand -/
def hs (l : List Int) : Int := l.foldl (fun h x => h * 32 + x - 96) 0
theorem hs_snoc {l : List Int} {x : Int} : hs (l ++ [x]) = hs l * 32 + x - 96 := by unfold hs; rw [List.foldl_append]; rfl
def hsr : List Int → Int
  | [] => 0
  | x :: r => hsr r * 32 + (x - 96)
theorem hs_r (l : List Int) : hs l = hsr l.reverse := by
  have key : ∀ r : List Int, hs r.reverse = hsr r := by
    intro r
    induction r with
    | nil => rfl
    | cons x r ih => rw [List.reverse_cons, hs_snoc, hsr, ih]; omega
  have := key l.reverse
  rw [List.reverse_reverse] at this
  exact this
theorem hsr_0 : ∀ r : List Int, (∀ x ∈ r, 97 ≤ x ∧ x ≤ 122) → 0 ≤ hsr r
  | [], _ => by simp [hsr]
  | x :: r, h => by
    have h1 := h x List.mem_cons_self
    have h2 := hsr_0 r (fun y hy => h y (List.mem_cons_of_mem _ hy))
    rw [hsr]; omega
theorem hsr_inj : ∀ r s : List Int, (∀ x ∈ r, 97 ≤ x ∧ x ≤ 122) → (∀ x ∈ s, 97 ≤ x ∧ x ≤ 122) → hsr r = hsr s → r = s
  | [], [], _, _, _ => rfl
  | [], y :: s, _, h2, e => by
    have h3 := h2 y List.mem_cons_self
    have h4 := hsr_0 s (fun z hz => h2 z (List.mem_cons_of_mem _ hz))
    rw [hsr, hsr] at e; omega
  | x :: r, [], h1, _, e => by
    have h3 := h1 x List.mem_cons_self
    have h4 := hsr_0 r (fun z hz => h1 z (List.mem_cons_of_mem _ hz))
    rw [hsr, hsr] at e; omega
  | x :: r, y :: s, h1, h2, e => by
    have h3 := h1 x List.mem_cons_self
    have h4 := h2 y List.mem_cons_self
    rw [hsr, hsr] at e
    have e1 : x = y := by omega
    have e2 : hsr r = hsr s := by omega
    rw [e1, hsr_inj r s (fun z hz => h1 z (List.mem_cons_of_mem _ hz)) (fun z hz => h2 z (List.mem_cons_of_mem _ hz)) e2]
theorem hs_inj {l s : List Int} (h1 : ∀ x ∈ l, 97 ≤ x ∧ x ≤ 122) (h2 : ∀ x ∈ s, 97 ≤ x ∧ x ≤ 122) (e : hs l = hs s) : l = s := by
  rw [hs_r, hs_r] at e
  have := hsr_inj _ _ (fun x hx => h1 x (List.mem_reverse.mp hx)) (fun x hx => h2 x (List.mem_reverse.mp hx)) e
  have := congrArg List.reverse this
  rw [List.reverse_reverse, List.reverse_reverse] at this
  exact this
theorem hs_rg : ∀ (n : Nat) (l : List Int), l.length = n → n ≤ 9 → (∀ x ∈ l, 97 ≤ x ∧ x ≤ 122) → 0 ≤ hs l ∧ hs l < 35184372088832 := by
  have key : ∀ r : List Int, (∀ x ∈ r, 97 ≤ x ∧ x ≤ 122) → 0 ≤ hsr r ∧ hsr r < 32 ^ r.length := by
    intro r
    induction r with
    | nil => intro _; exact ⟨by simp [hsr], by simp [hsr]⟩
    | cons x r ih =>
      intro h
      have h1 := h x List.mem_cons_self
      obtain ⟨h2, h3⟩ := ih (fun y hy => h y (List.mem_cons_of_mem _ hy))
      rw [hsr, List.length_cons, Int.pow_succ]
      omega
  intro n l hl hn h
  obtain ⟨h1, h2⟩ := key l.reverse (fun x hx => h x (List.mem_reverse.mp hx))
  rw [← hs_r, List.length_reverse, hl] at h2
  rw [← hs_r] at h1
  have : n = 0 ∨ n = 1 ∨ n = 2 ∨ n = 3 ∨ n = 4 ∨ n = 5 ∨ n = 6 ∨ n = 7 ∨ n = 8 ∨ n = 9 := by omega
  rcases this with e | e | e | e | e | e | e | e | e | e <;> subst e <;> exact ⟨h1, by omega⟩
def wv (l : List Int) : Int := if l.length ≤ 10 then hs l else -1
def wd (l : List Int) : Int := l.foldl (fun w x => if 1000 < w then w else w * 10 + x - 48) 0
theorem wd_snoc {l : List Int} {x : Int} : wd (l ++ [x]) = if 1000 < wd l then wd l else wd l * 10 + x - 48 := by unfold wd; rw [List.foldl_append]; rfl
theorem wd_nm : ∀ (n : Nat) (l : List Int), l.length = n → (∀ x ∈ l, 48 ≤ x ∧ x ≤ 57) → (0 ≤ wd l ∧ wd l ≤ 10009) ∧ nmb l = min (wd l) 100
  | 0, l, hl, _ => by
    have : l = [] := List.length_eq_zero_iff.mp hl
    subst this
    exact ⟨⟨by simp [wd], by simp [wd]⟩, rfl⟩
  | n + 1, l, hl, h => by
    obtain ⟨s, x, e⟩ : ∃ s x, l = s ++ [x] := by
      rcases List.eq_nil_or_concat l with z | ⟨s, x, z⟩
      · rw [z] at hl; cases hl
      · exact ⟨s, x, by rw [z]; simp⟩
    subst e
    have hx := h x (List.mem_append_right _ (List.mem_singleton.mpr rfl))
    obtain ⟨⟨a1, a2⟩, a3⟩ := wd_nm n s (by simpa using hl) (fun y hy => h y (List.mem_append_left _ hy))
    rw [wd_snoc, nmb_snoc, a3]
    split <;> omega
def srF (t : Int → Int) (N f : Int) : Int := if N ≤ f then 0 else if ltB (t f) = true then 1 else if dgB (t f) = true then 2 else 3
def wtF (t : Int → Int) (N f : Int) : Int := if N ≤ f then 0 else if ltB (t f) = true then wv (byt t (ndE t N f - f).toNat f) else if dgB (t f) = true then wd (byt t (ndE t N f - f).toNat f) else t f
def toF (t : Int → Int) (N f : Int) : Int := if N ≤ f then f else ndE t N f
theorem WLletters : ∀ k : Nat, k < 21 → ∀ x ∈ (WL.getD k []), 97 ≤ x ∧ x ≤ 122 := by decide +kernel
theorem WLwno : ∀ k : Nat, k < 21 → wno (WL.getD k []) = k ∧ 0 ≤ hs (WL.getD k []) ∧ (WL.getD k []).length ≤ 10 := by decide +kernel
theorem wnoF_inv : ∀ (ws : List (List Int)) (k : Int) (l : List Int) (i : Nat), wnoF ws k l = k + i → i < ws.length → ws.getD i [] = l
  | [], _, _, _, _, h => absurd h (Nat.not_lt_zero _)
  | w :: ws, k, l, i, h, hi => by
    rw [wnoF] at h
    by_cases c : w = l
    · rw [if_pos c] at h
      have : i = 0 := by omega
      subst this
      simpa using c
    · rw [if_neg c] at h
      cases i with
      | zero =>
        have := (wnoF_rg ws (k + 1) l).1
        omega
      | succ i =>
        have := wnoF_inv ws (k + 1) l i (by omega) (by simpa using hi)
        simpa using this
theorem ndE_lt {t : Int → Int} {N f : Int} (h : f < N) (hl : ltB (t f) = true) : ∀ x ∈ byt t (ndE t N f - f).toNat f, 97 ≤ x ∧ x ≤ 122 := by
  have hb := ndE_bd (t := t) h
  have e : ndE t N f = rnE ltB t (N - f).toNat f := by unfold ndE; rw [if_pos hl]
  refine byt_all _ _ (fun j j0 j1 => ltB_t.mp (rnE_in (N - f).toNat f j j0 ?_))
  rw [← e]
  omega
/-- a word is in hand -/
theorem is_word {t : Int → Int} {N f : Int} (ht : f < N → 0 ≤ t f) (k : Nat) (hk : k < 21) : (srF t N f = 1 ∧ wtF t N f = hs (WL.getD k [])) ↔ tkF t N f = k := by
  obtain ⟨w1, w2, w3⟩ := WLwno k hk
  by_cases hN : N ≤ f
  · unfold srF tkF
    rw [if_pos hN, if_pos hN]
    exact ⟨fun z => absurd z.1 (by decide), fun z => by omega⟩
  · have ht := ht (by omega)
    by_cases hl : ltB (t f) = true
    · have hall := ndE_lt (t := t) (by omega : f < N) hl
      unfold srF tkF wtF
      rw [if_neg hN, if_neg hN, if_neg hN, if_pos hl, if_pos hl, if_pos hl]
      generalize byt t (ndE t N f - f).toNat f = l at *
      unfold wv
      constructor
      · rintro ⟨-, z⟩
        split at z
        · rw [hs_inj hall (WLletters k hk) z]; exact w1
        · omega
      · intro z
        have hl2 : WL.getD k [] = l := wnoF_inv WL 0 l k (by unfold wno at z; omega) hk
        rw [← hl2, if_pos w3]
        exact ⟨rfl, rfl⟩
    · unfold srF tkF
      rw [if_neg hN, if_neg hN, if_neg hl, if_neg hl]
      constructor
      · rintro ⟨z, -⟩
        split at z <;> exact absurd z (by decide)
      · intro z
        split at z <;> omega
theorem is_sign {t : Int → Int} {N f : Int} (ht : f < N → 0 ≤ t f) {c : Int} (hc : 33 ≤ c) (hc1 : ¬ (97 ≤ c ∧ c ≤ 122)) (hc2 : ¬ (48 ≤ c ∧ c ≤ 57)) : (srF t N f = 3 ∧ wtF t N f = c) ↔ tkF t N f = 32 + c := by
  have hw := wno_rg (byt t (ndE t N f - f).toNat f)
  unfold srF tkF wtF
  by_cases hN : N ≤ f
  · rw [if_pos hN, if_pos hN, if_pos hN]
    exact ⟨fun z => absurd z.1 (by decide), fun z => by omega⟩
  · rw [if_neg hN, if_neg hN, if_neg hN]
    by_cases hl : ltB (t f) = true
    · rw [if_pos hl, if_pos hl, if_pos hl]
      exact ⟨fun z => absurd z.1 (by decide), fun z => by omega⟩
    · rw [if_neg hl, if_neg hl, if_neg hl]
      by_cases hd : dgB (t f) = true
      · rw [if_pos hd, if_pos hd, if_pos hd]
        exact ⟨fun z => absurd z.1 (by decide), fun z => by omega⟩
      · rw [if_neg hd, if_neg hd, if_neg hd]
        exact ⟨fun z => by omega, fun z => ⟨rfl, by omega⟩⟩
theorem is_end {t : Int → Int} {N f : Int} (ht : f < N → 0 ≤ t f) : srF t N f = 0 ↔ tkF t N f = 23 := by
  have hw := wno_rg (byt t (ndE t N f - f).toNat f)
  unfold srF tkF
  by_cases hN : N ≤ f
  · rw [if_pos hN, if_pos hN]; simp
  · have ht := ht (by omega)
    rw [if_neg hN, if_neg hN]
    by_cases hl : ltB (t f) = true
    · rw [if_pos hl, if_pos hl]
      exact ⟨fun z => absurd z (by decide), fun z => by omega⟩
    · rw [if_neg hl, if_neg hl]
      split
      · exact ⟨fun z => absurd z (by decide), fun z => absurd z (by decide)⟩
      · exact ⟨fun z => absurd z (by decide), fun z => by omega⟩
theorem is_num {t : Int → Int} {N f : Int} (ht : f < N → 0 ≤ t f) : srF t N f = 2 ↔ tkF t N f = 22 := by
  have hw := wno_rg (byt t (ndE t N f - f).toNat f)
  unfold srF tkF
  by_cases hN : N ≤ f
  · rw [if_pos hN, if_pos hN]; simp
  · have ht := ht (by omega)
    rw [if_neg hN, if_neg hN]
    by_cases hl : ltB (t f) = true
    · rw [if_pos hl, if_pos hl]
      exact ⟨fun z => absurd z (by decide), fun z => by omega⟩
    · rw [if_neg hl, if_neg hl]
      split
      · simp
      · exact ⟨fun z => absurd z (by decide), fun z => by omega⟩
theorem num_wt {t : Int → Int} {N f : Int} (h : srF t N f = 2) : nuF t N f = min (wtF t N f) 100 ∧ 0 ≤ wtF t N f := by
  unfold srF at h
  by_cases hN : N ≤ f
  · rw [if_pos hN] at h; cases h
  · rw [if_neg hN] at h
    by_cases hl : ltB (t f) = true
    · rw [if_pos hl] at h; cases h
    · rw [if_neg hl] at h
      by_cases hd : dgB (t f) = true
      · have := wd_nm _ (byt t (ndE t N f - f).toNat f) rfl (ndE_dg (by omega) hd)
        unfold nuF wtF
        rw [if_pos ⟨by omega, hd⟩, if_neg hN, if_neg hl, if_pos hd]
        exact ⟨this.2, this.1.1⟩
      · rw [if_neg hd] at h; cases h
theorem wtF_rg {t : Int → Int} {N f : Int} (ht : f < N → 0 ≤ t f ∧ t f ≤ 255) : -1 ≤ wtF t N f ∧ wtF t N f ≤ 2000000000000000 := by
  unfold wtF
  by_cases hN : N ≤ f
  · rw [if_pos hN]; omega
  · have ht := ht (by omega)
    rw [if_neg hN]
    by_cases hl : ltB (t f) = true
    · rw [if_pos hl]
      have hall := ndE_lt (t := t) (by omega : f < N) hl
      generalize byt t (ndE t N f - f).toNat f = l at *
      unfold wv
      split
      · rename_i h10
        rcases List.eq_nil_or_concat l with z | ⟨s, x, z⟩
        · rw [z]; simp [hs]
        · have z : l = s ++ [x] := by rw [z]; simp
          subst z
          have h9 : s.length ≤ 9 := by simpa using h10
          have h1 := hs_rg s.length s rfl h9 (fun y hy => hall y (List.mem_append_left _ hy))
          have h2 := hall x (List.mem_append_right _ (List.mem_singleton.mpr rfl))
          rw [hs_snoc]
          omega
      · omega
    · rw [if_neg hl]
      by_cases hd : dgB (t f) = true
      · rw [if_pos hd]
        have := wd_nm _ (byt t (ndE t N f - f).toNat f) rfl (ndE_dg (by omega) hd)
        omega
      · rw [if_neg hd]; omega
