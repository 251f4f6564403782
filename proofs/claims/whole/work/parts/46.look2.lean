/-! the reference: mends kept in order; the next change -/
def insS (k : Int) : List Int → List Int
  | [] => [k]
  | x :: K => if k < x then k :: x :: K else if k = x then x :: K else x :: insS k K
theorem insS_mem {k : Int} : ∀ {K : List Int} {x : Int}, x ∈ insS k K ↔ x = k ∨ x ∈ K
  | [], x => by rw [insS]; simp
  | y :: K, x => by
    rw [insS]
    split
    · simp
    · split
      · rename_i e
        rw [e]
        simp
      · rw [List.mem_cons, insS_mem, List.mem_cons]
        constructor
        · rintro (h | h | h)
          · exact Or.inr (Or.inl h)
          · exact Or.inl h
          · exact Or.inr (Or.inr h)
        · rintro (h | h | h)
          · exact Or.inr (Or.inl h)
          · exact Or.inl h
          · exact Or.inr (Or.inr h)
theorem insS_srt {k : Int} : ∀ {K : List Int}, K.Pairwise (· < ·) → (insS k K).Pairwise (· < ·)
  | [], _ => by rw [insS]; simp
  | y :: K, h => by
    rw [List.pairwise_cons] at h
    rw [insS]
    split
    · rename_i e
      rw [List.pairwise_cons]
      refine ⟨fun x hx => ?_, List.pairwise_cons.mpr h⟩
      rcases List.mem_cons.mp hx with z | z
      · rw [z]; exact e
      · have := h.1 x z; omega
    · split
      · exact List.pairwise_cons.mpr h
      · rw [List.pairwise_cons]
        refine ⟨fun x hx => ?_, insS_srt h.2⟩
        rcases insS_mem.mp hx with z | z
        · omega
        · exact h.1 x z
theorem insS_len {k : Int} : ∀ {K : List Int}, K.length ≤ (insS k K).length
  | [] => Nat.zero_le _
  | y :: K => by
    rw [insS]
    split
    · simp
    · split
      · simp
      · have := insS_len (k := k) (K := K)
        simp only [List.length_cons]; omega
theorem insS_pre {k : Int} : ∀ {K : List Int} {p i : Nat}, p ≤ K.length → (∀ j x, j < p → K[j]? = some x → x < k) → i < p → (insS k K)[i]? = K[i]?
  | [], p, i, hp, _, hi => by simp at hp; omega
  | y :: K, p, i, hp, h, hi => by
    have hy := h 0 y (by omega) rfl
    rw [insS, if_neg (by omega), if_neg (by omega)]
    cases i with
    | zero => rfl
    | succ i =>
      rw [List.getElem?_cons_succ, List.getElem?_cons_succ]
      exact insS_pre (p := p - 1) (by simp at hp; omega) (fun j x hj hx => h (j + 1) x (by omega) (by rw [List.getElem?_cons_succ]; exact hx)) (by omega)
theorem insS_at {k : Int} : ∀ {K : List Int} {p : Nat}, p ≤ K.length → (∀ j x, j < p → K[j]? = some x → x < k) → (∀ x, K[p]? = some x → k < x) → (insS k K).length = K.length + 1 ∧ (insS k K)[p]? = some k ∧ ∀ i, p < i → (insS k K)[i]? = K[i - 1]?
  | [], p, hp, _, _ => by
    have : p = 0 := by simp at hp; omega
    subst this
    refine ⟨rfl, rfl, fun i hi => ?_⟩
    cases i with
    | zero => omega
    | succ i => rfl
  | y :: K, 0, hp, h, hq => by
    have := hq y rfl
    rw [insS, if_pos this]
    refine ⟨rfl, rfl, fun i hi => ?_⟩
    cases i with
    | zero => omega
    | succ i => rfl
  | y :: K, p + 1, hp, h, hq => by
    have hy := h 0 y (by omega) rfl
    rw [insS, if_neg (by omega), if_neg (by omega)]
    have ih := insS_at (k := k) (K := K) (p := p) (by simp at hp; omega) (fun j x hj hx => h (j + 1) x (by omega) (by rw [List.getElem?_cons_succ]; exact hx)) (fun x hx => hq x (by rw [List.getElem?_cons_succ]; exact hx))
    refine ⟨by simp only [List.length_cons]; omega, by rw [List.getElem?_cons_succ]; exact ih.2.1, fun i hi => ?_⟩
    cases i with
    | zero => omega
    | succ i =>
      rw [List.getElem?_cons_succ, ih.2.2 i (by omega)]
      cases i with
      | zero => omega
      | succ i => rfl
theorem prR_off {ρ ρ' : Int → Int} (h : ∀ k, k < 30 ∨ 54 ≤ k → ρ' k = ρ k) {c v : Int} (h0 : 0 ≤ c) (h1 : c < 24) : prR ρ' c v = prR ρ c v := by
  have hk := knd_rg h0 h1
  have hl : ∀ N : Nat, lateF ρ' c N = lateF ρ c N := by
    intro N
    induction N with
    | zero => rfl
    | succ N ih => rw [lateF, lateF, ih, h (646 + 7 * (N : Int) + 2) (by omega), h (646 + 7 * (N : Int) + 1) (by omega), h (646 + 7 * (N : Int)) (by omega), h 0 (by omega)]
  unfold prR
  rw [hl, h 8 (by omega), h 14 (by omega), h (78 + c) (by omega), h (102 + knd c) (by omega)]
theorem prR_9 {ρ : Int → Int} {c v : Int} (h0 : 0 ≤ c) (h1 : c < 24) (hp : ∀ i, 0 ≤ i → i < 5 → 1 ≤ ρ (102 + i) ∧ ρ (102 + i) ≤ 9) : prR ρ c v ≤ 9 := by
  have hk := knd_rg h0 h1
  have := hp (knd c) hk.1 (by omega)
  unfold prR
  split <;> split <;> omega
section LK2
variable {d n G : Nat} {mr : MR} {Q : V → MI → Nat → MR → Prop}
theorem t_addMend (hL : Lay G mr) {mi : MI} {key : Int} {K : List Int} (hK : K.Pairwise (· < ·)) (hf : mi 0 80 36 = min (K.length : Int) 501) (hA : ∀ i : Nat, i < K.length → i < 501 → K[i]? = some (mi 0 93 i)) (hQ : ∀ mi' (K' : List Int), Ch (fun j k => j == 93 || (j == 80 && k == 36)) mi mi' → K'.Pairwise (· < ·) → (∀ x, x ∈ K' ↔ x = key ∨ x ∈ K) → mi' 0 80 36 = min (K'.length : Int) 501 → (∀ i : Nat, i < K'.length → i < 501 → K'[i]? = some (mi' 0 93 i)) → Q (vX 0) mi' n mr) : Tx (d+1) mt_X12_addMend [vR (some (0, 80)), vL key] mi n mr Q := by
  refine tx_intro (ls := [vR (some (0, 80)), vL key, vX 0, vX 0, vX 0, vX 0]) om_X12_addMend rfl (Nat.le_of_ble_eq_true rfl) ?_
  -- the place is known
  have put : ∀ p : Nat, p ≤ K.length → p ≤ 500 → (∀ j x, j < p → K[j]? = some x → x < key) → (∀ x, K[p]? = some x → key < x) → ∀ x4 x5 : V, Run (d+1) mt_X12_addMend Q (n, mr, 0, 0) mi 54 [vR (some (0, 80)), vL key, vX 0, vI (p : Int), x4, x5] [] := by
    intro p hp hp5 hlt hgt x4 x5
    have hin := insS_at hp hlt hgt
    have fin : ∀ (m : MI), Ch (fun j k => j == 93 || (j == 80 && k == 36)) mi m → m 0 80 36 = mi 0 80 36 → (∀ i : Nat, i < p → m 0 93 i = mi 0 93 i) → (∀ i : Nat, p < i → i ≤ K.length → i ≤ 500 → m 0 93 i = mi 0 93 ((i : Int) - 1)) → ∀ x4 x5 : V, Run (d+1) mt_X12_addMend Q (n, mr, 0, 0) m 108 [vR (some (0, 80)), vL key, vX 0, vI (p : Int), x4, x5] [] := by
      intro m g e36 h1 h2 x4 x5
      have e36' : up m 0 93 p key 0 80 36 = mi 0 80 36 := by rw [up_j (by decide), e36]
      have ent : ∀ (v : Int) (i : Nat), i < (insS key K).length → i < 501 → (insS key K)[i]? = some (up (up m 0 93 p key) 0 80 36 v 0 93 i) := by
        intro v i hi hi5
        rw [hin.1] at hi
        rw [up_j (by decide), up_ud]
        by_cases e1 : i < p
        · rw [insS_pre hp hlt e1, ud_ne (by omega), h1 i e1]
          exact hA i (by omega) (by omega)
        · by_cases e2 : i = p
          · subst e2; rw [ud_at]; exact hin.2.1
          · rw [hin.2.2 i (by omega), ud_ne (by omega), h2 i (by omega) (by omega) (by omega), hA (i - 1) (by omega) (by omega)]
            rw [show ((i - 1 : Nat) : Int) = (i : Int) - 1 by omega]
      have hmem : ∀ x, x ∈ insS key K ↔ x = key ∨ x ∈ K := fun x => insS_mem
      refine r_aload_n (dc kc_X12_addMend_1 16 rfl) rfl <| s_getA (dc kc_X12_addMend_1 17 rfl) fl_X12_51 (ly_80_37 hL) <| s_iload_n (dc kc_X12_addMend_1 18 rfl) rfl <| s_lload_n (dc kc_X12_addMend_1 19 rfl) rfl <| s_lastore (dc kc_X12_addMend_1 20 rfl) rfl (by first | omega | (simp [up] <;> omega)) (by first | omega | (simp [up] <;> omega)) <| r_aload_n (dc kc_X12_addMend_1 21 rfl) rfl <| s_dup (dc kc_X12_addMend_1 22 rfl) rfl <| s_getI (dc kc_X12_addMend_1 23 rfl) fl_X12_455 <| r_aload_n (dc kc_X12_addMend_1 24 rfl) rfl <| s_getI (dc kc_X12_addMend_1 25 rfl) fl_X12_455 <| k_s (dc kc_X12_addMend_1 26 rfl) rfl <| s_icmp_gt (tgt := 134) (dc kc_X12_addMend_1 27 rfl) rfl (fun c127 => (k_i (dc kc_X12_addMend_1 30 rfl) rfl <| b_iadd (dc kc_X12_addMend_1 31 rfl) (by first | omega | (simp [up] <;> omega)) (by first | omega | (simp [up] <;> omega)) <| s_putI (dc kc_X12_addMend_1 32 rfl) fl_X12_455 <| s_return (dc kc_X12_addMend_1 33 rfl) rfl (Nat.zero_le _) (Nat.zero_le _) ?_)) (fun c127 => (k_i (dc kc_X12_addMend_1 28 rfl) rfl <| s_goto (tgt := 135) (dc kc_X12_addMend_1 29 rfl) rfl <| b_iadd (dc kc_X12_addMend_1 31 rfl) (by first | omega | (simp [up] <;> omega)) (by first | omega | (simp [up] <;> omega)) <| s_putI (dc kc_X12_addMend_1 32 rfl) fl_X12_455 <| s_return (dc kc_X12_addMend_1 33 rfl) rfl (Nat.zero_le _) (Nat.zero_le _) ?_))
      · rw [e36'] at c127
        refine hQ _ (insS key K) ((g.up rfl).up rfl) (insS_srt hK) hmem ?_ (ent _)
        rw [up_at, e36', hin.1]
        omega
      · rw [e36'] at c127
        refine hQ _ (insS key K) ((g.up rfl).up rfl) (insS_srt hK) hmem ?_ (ent _)
        rw [up_at, e36', hin.1]
        omega
    have loop : ∀ (N : Nat), N ≤ K.length → N ≤ 500 → p ≤ N → (N = K.length ∨ N = 500) → ∀ t : Nat, t ≤ N - p → ∀ (m : MI) (x4 : Int), Ch (fun j k => j == 93 || (j == 80 && k == 36)) mi m → m 0 80 36 = mi 0 80 36 → (∀ i : Nat, i ≤ N - t → m 0 93 i = mi 0 93 i) → (∀ i : Nat, N - t < i → i ≤ N → m 0 93 i = mi 0 93 ((i : Int) - 1)) → Run (d+1) mt_X12_addMend Q (n, mr, 0, 0) m 80 [vR (some (0, 80)), vL key, vX 0, vI (p : Int), vI x4, vI ((N : Int) - t)] [] := by
      intro N hN1 hN2 hN3 hN4
      refine nloop ?_
      intro t ht ih m x4 g e36 h1 h2
      by_cases he : t < N - p
      · refine s_iload (dc kc_X12_addMend_1 1 rfl) rfl <| s_iload_n (dc kc_X12_addMend_1 2 rfl) rfl <| s_icmp_le (tgt := 108) (dc kc_X12_addMend_1 3 rfl) rfl (fun c83 => (?_)) (fun c83 => (r_aload_n (dc kc_X12_addMend_1 4 rfl) rfl <| s_getA (dc kc_X12_addMend_1 5 rfl) fl_X12_51 (ly_80_37 hL) <| s_iload (dc kc_X12_addMend_1 6 rfl) rfl <| r_aload_n (dc kc_X12_addMend_1 7 rfl) rfl <| s_getA (dc kc_X12_addMend_1 8 rfl) fl_X12_51 (ly_80_37 hL) <| s_iload (dc kc_X12_addMend_1 9 rfl) rfl <| k_i (dc kc_X12_addMend_1 10 rfl) rfl <| b_isub (dc kc_X12_addMend_1 11 rfl) (by first | omega | (simp [up] <;> omega)) (by first | omega | (simp [up] <;> omega)) <| s_laload (dc kc_X12_addMend_1 12 rfl) rfl (by first | omega | (simp [up] <;> omega)) (by first | omega | (simp [up] <;> omega)) <| s_lastore (dc kc_X12_addMend_1 13 rfl) rfl (by first | omega | (simp [up] <;> omega)) (by first | omega | (simp [up] <;> omega)) <| b_inc5 (dc kc_X12_addMend_1 14 rfl) rfl (Nat.le_of_ble_eq_true rfl) rfl (by first | omega | (simp [up] <;> omega)) (by first | omega | (simp [up] <;> omega)) <| s_goto (tgt := 80) (dc kc_X12_addMend_1 15 rfl) rfl <| ?_))
        · exfalso; omega
        · have := ih he (up m 0 93 ((N : Int) - t) (m 0 93 ((N : Int) - t - 1))) x4 (g.up rfl) (by rw [up_j (by decide), e36]) (fun i hi => by rw [up_ud, ud_ne (by omega)]; exact h1 i (by omega)) (fun i hi1 hi2 => by
            rw [up_ud]
            by_cases e : (i : Int) = (N : Int) - t
            · rw [← e, ud_at]
              have := h1 (i - 1) (by omega)
              rw [show ((i - 1 : Nat) : Int) = (i : Int) - 1 by omega] at this
              exact this
            · rw [ud_ne e]; exact h2 i (by omega) hi2)
          rw [show (N : Int) - t + -1 = (N : Int) - ((t + 1 : Nat) : Int) by omega]
          exact this
      · refine s_iload (dc kc_X12_addMend_1 1 rfl) rfl <| s_iload_n (dc kc_X12_addMend_1 2 rfl) rfl <| s_icmp_le (tgt := 108) (dc kc_X12_addMend_1 3 rfl) rfl (fun c83 => (?_)) (fun c83 => (?_))
        · exact fin m g e36 (fun i hi => h1 i (by omega)) (fun i hi1 hi2 hi3 => h2 i (by omega) (by omega)) _ _
        · exfalso; omega
    refine r_aload_n (dc kc_X12_addMend_0 30 rfl) rfl <| s_getI (dc kc_X12_addMend_0 31 rfl) fl_X12_455 <| k_s (dc kc_X12_addMend_0 32 rfl) rfl <| s_icmp_gt (tgt := 71) (dc kc_X12_addMend_0 33 rfl) rfl (fun c61 => (k_s (dc kc_X12_addMend_0 37 rfl) rfl <| t_i4 (dc kc_X12_addMend_0 38 rfl) (Nat.le_of_ble_eq_true rfl) rfl <| s_iload (dc kc_X12_addMend_0 39 rfl) rfl <| t_i5 (dc kc_X12_addMend_1 0 rfl) (Nat.le_of_ble_eq_true rfl) rfl <| ?_)) (fun c61 => (r_aload_n (dc kc_X12_addMend_0 34 rfl) rfl <| s_getI (dc kc_X12_addMend_0 35 rfl) fl_X12_455 <| s_goto (tgt := 74) (dc kc_X12_addMend_0 36 rfl) rfl <| t_i4 (dc kc_X12_addMend_0 38 rfl) (Nat.le_of_ble_eq_true rfl) rfl <| s_iload (dc kc_X12_addMend_0 39 rfl) rfl <| t_i5 (dc kc_X12_addMend_1 0 rfl) (Nat.le_of_ble_eq_true rfl) rfl <| ?_))
    · have := loop 500 (by omega) (by omega) (by omega) (by omega) 0 (Nat.zero_le _) mi 500 Ch.rf rfl (fun _ _ => rfl) (fun i h1 h2 => by omega)
      rw [show ((500 : Nat) : Int) - ((0 : Nat) : Int) = 500 by decide] at this
      exact this
    · have := loop K.length (by omega) (by omega) (by omega) (by omega) 0 (Nat.zero_le _) mi (mi 0 80 36) Ch.rf rfl (fun _ _ => rfl) (fun i h1 h2 => by omega)
      rw [show (K.length : Int) - ((0 : Nat) : Int) = mi 0 80 36 by omega] at this
      exact this
  have scan : ∀ i : Nat, i ≤ min K.length 501 → (∀ j x, j < i → K[j]? = some x → x < key) → ∀ x4 x5 : V, Run (d+1) mt_X12_addMend Q (n, mr, 0, 0) mi 2 [vR (some (0, 80)), vL key, vX 0, vI (i : Int), x4, x5] [] := by
    refine nloop ?_
    intro i hi ih hlt x4 x5
    by_cases he : i < min K.length 501
    · have hx := hA i (by omega) (by omega)
      refine s_iload_n (dc kc_X12_addMend_0 2 rfl) rfl <| r_aload_n (dc kc_X12_addMend_0 3 rfl) rfl <| s_getI (dc kc_X12_addMend_0 4 rfl) fl_X12_455 <| s_icmp_ge (tgt := 27) (dc kc_X12_addMend_0 5 rfl) rfl (fun c7 => (?_)) (fun c7 => (r_aload_n (dc kc_X12_addMend_0 6 rfl) rfl <| s_getA (dc kc_X12_addMend_0 7 rfl) fl_X12_51 (ly_80_37 hL) <| s_iload_n (dc kc_X12_addMend_0 8 rfl) rfl <| s_laload (dc kc_X12_addMend_0 9 rfl) rfl (by first | omega | (simp [up] <;> omega)) (by first | omega | (simp [up] <;> omega)) <| s_lload_n (dc kc_X12_addMend_0 10 rfl) rfl <| s_lcmp (dc kc_X12_addMend_0 11 rfl) <| s_if_ge (tgt := 27) (dc kc_X12_addMend_0 12 rfl) rfl (fun c18 => (?_)) (fun c18 => (b_inc3 (dc kc_X12_addMend_0 13 rfl) rfl (Nat.le_of_ble_eq_true rfl) rfl (by first | omega | (simp [up] <;> omega)) (by first | omega | (simp [up] <;> omega)) <| s_goto (tgt := 2) (dc kc_X12_addMend_0 14 rfl) rfl <| ?_))))
      · exfalso; omega
      · rw [lc_ge] at c18
        refine s_iload_n (dc kc_X12_addMend_0 15 rfl) rfl <| r_aload_n (dc kc_X12_addMend_0 16 rfl) rfl <| s_getI (dc kc_X12_addMend_0 17 rfl) fl_X12_455 <| s_icmp_ge (tgt := 46) (dc kc_X12_addMend_0 18 rfl) rfl (fun c32 => (?_)) (fun c32 => (r_aload_n (dc kc_X12_addMend_0 19 rfl) rfl <| s_getA (dc kc_X12_addMend_0 20 rfl) fl_X12_51 (ly_80_37 hL) <| s_iload_n (dc kc_X12_addMend_0 21 rfl) rfl <| s_laload (dc kc_X12_addMend_0 22 rfl) rfl (by first | omega | (simp [up] <;> omega)) (by first | omega | (simp [up] <;> omega)) <| s_lload_n (dc kc_X12_addMend_0 23 rfl) rfl <| s_lcmp (dc kc_X12_addMend_0 24 rfl) <| s_if_eq (tgt := 53) (dc kc_X12_addMend_0 25 rfl) rfl (fun c43 => (?_)) (fun c43 => (?_))))
        · exfalso; omega
        · rw [lc_eq] at c43
          refine s_return (dc kc_X12_addMend_0 29 rfl) rfl (Nat.zero_le _) (Nat.zero_le _) ?_
          refine hQ mi K Ch.rf hK (fun x => ⟨Or.inr, fun z => z.elim (fun e => ?_) id⟩) hf hA
          rw [e, ← c43]
          exact List.mem_of_getElem? hx
        · have c43 : ¬ (mi 0 93 i = key) := fun z => c43 (lc_eq.mpr z)
          refine s_iload_n (dc kc_X12_addMend_0 26 rfl) rfl <| k_s (dc kc_X12_addMend_0 27 rfl) rfl <| s_icmp_ne (tgt := 54) (dc kc_X12_addMend_0 28 rfl) rfl (fun c50 => (?_)) (fun c50 => (s_return (dc kc_X12_addMend_0 29 rfl) rfl (Nat.zero_le _) (Nat.zero_le _) ?_))
          · exact put i (by omega) (by omega) hlt (fun x e => by rw [hx] at e; cases e; omega) _ _
          · exfalso; omega
      · have c18' : ¬ (0 ≤ lc (mi 0 93 i) key) := by omega
        rw [lc_ge] at c18'
        refine ih he (fun j x hj hxj => ?_) _ _
        by_cases e : j = i
        · subst e; rw [hx] at hxj; cases hxj; omega
        · exact hlt j x (by omega) hxj
    · have hi' : (i : Int) = mi 0 80 36 := by omega
      refine s_iload_n (dc kc_X12_addMend_0 2 rfl) rfl <| r_aload_n (dc kc_X12_addMend_0 3 rfl) rfl <| s_getI (dc kc_X12_addMend_0 4 rfl) fl_X12_455 <| s_icmp_ge (tgt := 27) (dc kc_X12_addMend_0 5 rfl) rfl (fun c7 => (?_)) (fun c7 => (?_))
      · refine s_iload_n (dc kc_X12_addMend_0 15 rfl) rfl <| r_aload_n (dc kc_X12_addMend_0 16 rfl) rfl <| s_getI (dc kc_X12_addMend_0 17 rfl) fl_X12_455 <| s_icmp_ge (tgt := 46) (dc kc_X12_addMend_0 18 rfl) rfl (fun c32 => (s_iload_n (dc kc_X12_addMend_0 26 rfl) rfl <| k_s (dc kc_X12_addMend_0 27 rfl) rfl <| s_icmp_ne (tgt := 54) (dc kc_X12_addMend_0 28 rfl) rfl (fun c50 => (?_)) (fun c50 => (s_return (dc kc_X12_addMend_0 29 rfl) rfl (Nat.zero_le _) (Nat.zero_le _) ?_)))) (fun c32 => (?_))
        · exact put i (by omega) (by omega) hlt (fun x e => by rw [List.getElem?_eq_none (by omega)] at e; cases e) _ _
        · have h5 : i = 501 := by omega
          subst h5
          have hl := insS_len (k := key) (K := K)
          refine hQ mi (insS key K) Ch.rf (insS_srt hK) (fun x => insS_mem) (by omega) (fun i h1 h2 => ?_)
          rw [insS_pre (p := 501) (by omega) hlt h2]
          exact hA i (by omega) h2
        · exfalso; omega
      · exfalso; omega
  refine k_i (dc kc_X12_addMend_0 0 rfl) rfl <| t_i3 (dc kc_X12_addMend_0 1 rfl) (Nat.le_of_ble_eq_true rfl) rfl <| ?_
  exact scan 0 (Nat.zero_le _) (fun j x hj => by omega) _ _
theorem t_tellMend (hL : Lay G mr) {mi : MI} {x : Int} {ρ : Int → Int} {A : List PR} {X : List (List PR)} (hx : x = A.length) (h1 : 1 ≤ A.length) (h3 : A.length ≤ 3) (hS : Sav mi A) (hP : Pth ρ A) (hsp : mi 0 98 x = prc ρ A) (hX : Sm ρ mi X) (hQ : ∀ mi', Ch pM mi mi' → Sm ρ mi' (srt A :: X) → Q (vX 0) mi' n mr) : Tx (d+3) mt_X12_tellMend [vR (some (0, 80)), vI x] mi n mr Q := by
  refine tx_intro (ls := [vR (some (0, 80)), vI x]) om_X12_tellMend rfl (Nat.le_of_ble_eq_true rfl) ?_
  have hpm := srt_perm A
  have hlen : (srt A).length = A.length := hpm.length_eq
  have hpr : prc ρ (srt A) = prc ρ A := prc_perm hpm
  have hpos : 1 ≤ prc ρ A := by
    have := prc_sub (ρ := ρ) (A := []) (L := A) (by simp) (nodup_of_fst hP.1) (fun q hq => by cases hq)
    have e0 : prc ρ [] = 0 := rfl
    rw [e0] at this
    simp only [List.length_nil] at this
    omega
  have hrA : ∀ q ∈ A, 0 ≤ q.1 ∧ q.1 < 24 ∧ -1 ≤ q.2 ∧ q.2 ≤ 9 := fun q hq => by
    have h := hP.2 q hq
    have hb := h.2.2.1
    unfold biC at hb
    rw [bi_eq1] at hb
    omega
  -- the mend is added to those with this price and so many cells
  have add : ∀ (m : MI) (K : List Int) (X' : List (List PR)), Ch pM mi m → m 0 80 34 = prc ρ A → m 0 80 35 = x → K.Pairwise (· < ·) → m 0 80 36 = min (K.length : Int) 501 → (∀ i : Nat, i < K.length → i < 501 → K[i]? = some (m 0 93 i)) → (∀ k, k ∈ K ↔ ∃ L ∈ X, prc ρ L = prc ρ A ∧ (L.length : Int) = x ∧ key3 L = k) → (∀ L ∈ X, prc ρ A < prc ρ L ∨ (prc ρ A = prc ρ L ∧ x ≤ L.length)) → Run (d+3) mt_X12_tellMend Q (n, mr, 0, 0) m 62 [vR (some (0, 80)), vI x] [] := by
    intro m K X' g e34 e35 hK hf hA hm hle
    have hsp' : m 0 98 x = prc ρ A := by rw [g.row (fun _ => rfl)]; exact hsp
    have hS' : Sav m A := fun i q h => by rw [g.row (fun _ => rfl), g.row (fun _ => rfl)]; exact hS i q h
    refine r_aload_n (dc kc_X12_tellMend_0 34 rfl) rfl <| s_getA (dc kc_X12_tellMend_0 35 rfl) fl_X12_67 (ly_80_42 hL) <| s_iload_n (dc kc_X12_tellMend_0 36 rfl) rfl <| s_iaload (dc kc_X12_tellMend_0 37 rfl) rfl (by first | omega | (simp [up] <;> omega)) (by first | omega | (simp [up] <;> omega)) <| r_aload_n (dc kc_X12_tellMend_0 38 rfl) rfl <| s_getI (dc kc_X12_tellMend_0 39 rfl) fl_X12_458 <| s_icmp_ne (tgt := 92) (dc kc_X12_tellMend_1 0 rfl) rfl (fun c72 => (?_)) (fun c72 => (s_iload_n (dc kc_X12_tellMend_1 1 rfl) rfl <| r_aload_n (dc kc_X12_tellMend_1 2 rfl) rfl <| s_getI (dc kc_X12_tellMend_1 3 rfl) fl_X12_461 <| s_icmp_ne (tgt := 92) (dc kc_X12_tellMend_1 4 rfl) rfl (fun c80 => (?_)) (fun c80 => (r_aload_n (dc kc_X12_tellMend_1 5 rfl) rfl <| r_aload_n (dc kc_X12_tellMend_1 6 rfl) rfl <| s_iload_n (dc kc_X12_tellMend_1 7 rfl) rfl <| c_v1r (dc kc_X12_tellMend_1 8 rfl) cl_X12_464 rfl (Nat.le_of_ble_eq_true rfl) (Nat.zero_le _) (Nat.zero_le _) ?_))))
    · exfalso; omega
    · exfalso; omega
    · refine t_rowOf hL hx h3 hS' hP.1 hrA ?_
      refine c_v1 (dc kc_X12_tellMend_1 9 rfl) cl_X12_468 rfl (Nat.le_of_ble_eq_true rfl) (Nat.zero_le _) (Nat.zero_le _) ?_
      refine t_addMend hL hK hf hA (fun m2 K' g2 hK' hm' hf' hA' => ?_)
      refine s_return (dc kc_X12_tellMend_1 10 rfl) rfl (Nat.zero_le _) (Nat.zero_le _) ?_
      have f34 : m2 0 80 34 = prc ρ A := by rw [g2.at (by decide), e34]
      have f35 : m2 0 80 35 = x := by rw [g2.at (by decide), e35]
      refine hQ m2 (g.tr (g2.mono (fun _ _ z => by simp [pM] at z ⊢; omega))) (Or.inr ⟨by omega, ⟨srt A, List.mem_cons_self, by rw [hpr, f34], by omega⟩, fun L hL => ?_, K', hK', fun k => ?_, hf', hA'⟩)
      · rw [f34, f35]
        rcases List.mem_cons.mp hL with e | e
        · rw [e, hpr, hlen]; exact Or.inr ⟨rfl, by omega⟩
        · exact hle L e
      · rw [hm' k, hm k, f34, f35]
        constructor
        · rintro (e | ⟨L, hL, a, b, c⟩)
          · exact ⟨srt A, List.mem_cons_self, hpr, by omega, e.symm⟩
          · exact ⟨L, List.mem_cons_of_mem _ hL, a, b, c⟩
        · rintro ⟨L, hL, a, b, c⟩
          rcases List.mem_cons.mp hL with e | e
          · rw [e] at c; exact Or.inl c.symm
          · exact Or.inr ⟨L, e, a, b, c⟩
  have reset : ((mi 0 80 34 = -1 ∧ X = []) ∨ ∀ L ∈ X, prc ρ A < prc ρ L ∨ (prc ρ A = prc ρ L ∧ x < L.length)) → Run (d+3) mt_X12_tellMend Q (n, mr, 0, 0) mi 42 [vR (some (0, 80)), vI x] [] := by
    intro hr
    have hr' : ∀ L ∈ X, prc ρ A < prc ρ L ∨ (prc ρ A = prc ρ L ∧ x < L.length) := by
      rcases hr with ⟨_, h⟩ | h
      · rw [h]; intro L hL; cases hL
      · exact h
    refine r_aload_n (dc kc_X12_tellMend_0 22 rfl) rfl <| r_aload_n (dc kc_X12_tellMend_0 23 rfl) rfl <| s_getA (dc kc_X12_tellMend_0 24 rfl) fl_X12_67 (ly_80_42 hL) <| s_iload_n (dc kc_X12_tellMend_0 25 rfl) rfl <| s_iaload (dc kc_X12_tellMend_0 26 rfl) rfl (by first | omega | (simp [up] <;> omega)) (by first | omega | (simp [up] <;> omega)) <| s_putI (dc kc_X12_tellMend_0 27 rfl) fl_X12_458 <| r_aload_n (dc kc_X12_tellMend_0 28 rfl) rfl <| s_iload_n (dc kc_X12_tellMend_0 29 rfl) rfl <| s_putI (dc kc_X12_tellMend_0 30 rfl) fl_X12_461 <| r_aload_n (dc kc_X12_tellMend_0 31 rfl) rfl <| k_i (dc kc_X12_tellMend_0 32 rfl) rfl <| s_putI (dc kc_X12_tellMend_0 33 rfl) fl_X12_455 <| ?_
    rw [hsp]
    refine add _ [] X (((Ch.rf.up rfl).up rfl).up rfl) (by rw [up_k (by decide), up_k (by decide), up_at]) (by rw [up_k (by decide), up_at]) List.Pairwise.nil (by rw [up_at]; rfl) (fun i h => by simp at h) (fun k => ⟨fun h => (by cases h), ?_⟩) (fun L hL => by have := hr' L hL; omega)
    rintro ⟨L, hL, a, b, c⟩
    have := hr' L hL
    omega
  rcases hX with ⟨e1, e2⟩ | ⟨hp, ⟨L0, hL0, e3, e4⟩, hle, K, hK, hm, hf, hA⟩
  · refine r_aload_n (dc kc_X12_tellMend_0 0 rfl) rfl <| s_getI (dc kc_X12_tellMend_0 1 rfl) fl_X12_458 <| k_i (dc kc_X12_tellMend_0 2 rfl) rfl <| s_icmp_eq (tgt := 42) (dc kc_X12_tellMend_0 3 rfl) rfl (fun c5 => (?_)) (fun c5 => (r_aload_n (dc kc_X12_tellMend_0 4 rfl) rfl <| s_getA (dc kc_X12_tellMend_0 5 rfl) fl_X12_67 (ly_80_42 hL) <| s_iload_n (dc kc_X12_tellMend_0 6 rfl) rfl <| s_iaload (dc kc_X12_tellMend_0 7 rfl) rfl (by first | omega | (simp [up] <;> omega)) (by first | omega | (simp [up] <;> omega)) <| r_aload_n (dc kc_X12_tellMend_0 8 rfl) rfl <| s_getI (dc kc_X12_tellMend_0 9 rfl) fl_X12_458 <| s_icmp_lt (tgt := 42) (dc kc_X12_tellMend_0 10 rfl) rfl (fun c18 => (?_)) (fun c18 => (r_aload_n (dc kc_X12_tellMend_0 11 rfl) rfl <| s_getA (dc kc_X12_tellMend_0 12 rfl) fl_X12_67 (ly_80_42 hL) <| s_iload_n (dc kc_X12_tellMend_0 13 rfl) rfl <| s_iaload (dc kc_X12_tellMend_0 14 rfl) rfl (by first | omega | (simp [up] <;> omega)) (by first | omega | (simp [up] <;> omega)) <| r_aload_n (dc kc_X12_tellMend_0 15 rfl) rfl <| s_getI (dc kc_X12_tellMend_0 16 rfl) fl_X12_458 <| s_icmp_ne (tgt := 62) (dc kc_X12_tellMend_0 17 rfl) rfl (fun c31 => (?_)) (fun c31 => (s_iload_n (dc kc_X12_tellMend_0 18 rfl) rfl <| r_aload_n (dc kc_X12_tellMend_0 19 rfl) rfl <| s_getI (dc kc_X12_tellMend_0 20 rfl) fl_X12_461 <| s_icmp_ge (tgt := 62) (dc kc_X12_tellMend_0 21 rfl) rfl (fun c39 => (?_)) (fun c39 => (?_))))))))
    · exact reset (Or.inl ⟨e2, e1⟩)
    all_goals exfalso; omega
  · refine r_aload_n (dc kc_X12_tellMend_0 0 rfl) rfl <| s_getI (dc kc_X12_tellMend_0 1 rfl) fl_X12_458 <| k_i (dc kc_X12_tellMend_0 2 rfl) rfl <| s_icmp_eq (tgt := 42) (dc kc_X12_tellMend_0 3 rfl) rfl (fun c5 => (?_)) (fun c5 => (r_aload_n (dc kc_X12_tellMend_0 4 rfl) rfl <| s_getA (dc kc_X12_tellMend_0 5 rfl) fl_X12_67 (ly_80_42 hL) <| s_iload_n (dc kc_X12_tellMend_0 6 rfl) rfl <| s_iaload (dc kc_X12_tellMend_0 7 rfl) rfl (by first | omega | (simp [up] <;> omega)) (by first | omega | (simp [up] <;> omega)) <| r_aload_n (dc kc_X12_tellMend_0 8 rfl) rfl <| s_getI (dc kc_X12_tellMend_0 9 rfl) fl_X12_458 <| s_icmp_lt (tgt := 42) (dc kc_X12_tellMend_0 10 rfl) rfl (fun c18 => (?_)) (fun c18 => (r_aload_n (dc kc_X12_tellMend_0 11 rfl) rfl <| s_getA (dc kc_X12_tellMend_0 12 rfl) fl_X12_67 (ly_80_42 hL) <| s_iload_n (dc kc_X12_tellMend_0 13 rfl) rfl <| s_iaload (dc kc_X12_tellMend_0 14 rfl) rfl (by first | omega | (simp [up] <;> omega)) (by first | omega | (simp [up] <;> omega)) <| r_aload_n (dc kc_X12_tellMend_0 15 rfl) rfl <| s_getI (dc kc_X12_tellMend_0 16 rfl) fl_X12_458 <| s_icmp_ne (tgt := 62) (dc kc_X12_tellMend_0 17 rfl) rfl (fun c31 => (?_)) (fun c31 => (s_iload_n (dc kc_X12_tellMend_0 18 rfl) rfl <| r_aload_n (dc kc_X12_tellMend_0 19 rfl) rfl <| s_getI (dc kc_X12_tellMend_0 20 rfl) fl_X12_461 <| s_icmp_ge (tgt := 62) (dc kc_X12_tellMend_0 21 rfl) rfl (fun c39 => (?_)) (fun c39 => (?_))))))))
    · exfalso; omega
    · exact reset (Or.inr (fun L hL => by have := hle L hL; omega))
    · -- dearer
      have hgt : mi 0 80 34 < prc ρ A := by omega
      refine r_aload_n (dc kc_X12_tellMend_0 34 rfl) rfl <| s_getA (dc kc_X12_tellMend_0 35 rfl) fl_X12_67 (ly_80_42 hL) <| s_iload_n (dc kc_X12_tellMend_0 36 rfl) rfl <| s_iaload (dc kc_X12_tellMend_0 37 rfl) rfl (by first | omega | (simp [up] <;> omega)) (by first | omega | (simp [up] <;> omega)) <| r_aload_n (dc kc_X12_tellMend_0 38 rfl) rfl <| s_getI (dc kc_X12_tellMend_0 39 rfl) fl_X12_458 <| s_icmp_ne (tgt := 92) (dc kc_X12_tellMend_1 0 rfl) rfl (fun c72 => (?_)) (fun c72 => (s_iload_n (dc kc_X12_tellMend_1 1 rfl) rfl <| r_aload_n (dc kc_X12_tellMend_1 2 rfl) rfl <| s_getI (dc kc_X12_tellMend_1 3 rfl) fl_X12_461 <| s_icmp_ne (tgt := 92) (dc kc_X12_tellMend_1 4 rfl) rfl (fun c80 => (?_)) (fun c80 => (?_))))
      · refine s_return (dc kc_X12_tellMend_1 10 rfl) rfl (Nat.zero_le _) (Nat.zero_le _) ?_
        refine hQ mi Ch.rf (Or.inr ⟨hp, ⟨L0, List.mem_cons_of_mem _ hL0, e3, e4⟩, fun L hL => ?_, K, hK, fun k => ?_, hf, hA⟩)
        · rcases List.mem_cons.mp hL with e | e
          · rw [e, hpr]; exact Or.inl hgt
          · exact hle L e
        · rw [hm k]
          constructor
          · rintro ⟨L, hL, r⟩; exact ⟨L, List.mem_cons_of_mem _ hL, r⟩
          · rintro ⟨L, hL, r⟩
            rcases List.mem_cons.mp hL with e | e
            · rw [e, hpr] at r; omega
            · exact ⟨L, e, r⟩
      all_goals exfalso; omega
    · -- as dear, no fewer cells
      have heq : mi 0 80 34 = prc ρ A := by omega
      by_cases hc : mi 0 80 35 = x
      · exact add mi K X Ch.rf heq hc hK hf hA (fun k => by rw [hm k, heq, hc]) (fun L hL => by have := hle L hL; omega)
      · refine r_aload_n (dc kc_X12_tellMend_0 34 rfl) rfl <| s_getA (dc kc_X12_tellMend_0 35 rfl) fl_X12_67 (ly_80_42 hL) <| s_iload_n (dc kc_X12_tellMend_0 36 rfl) rfl <| s_iaload (dc kc_X12_tellMend_0 37 rfl) rfl (by first | omega | (simp [up] <;> omega)) (by first | omega | (simp [up] <;> omega)) <| r_aload_n (dc kc_X12_tellMend_0 38 rfl) rfl <| s_getI (dc kc_X12_tellMend_0 39 rfl) fl_X12_458 <| s_icmp_ne (tgt := 92) (dc kc_X12_tellMend_1 0 rfl) rfl (fun c72 => (?_)) (fun c72 => (s_iload_n (dc kc_X12_tellMend_1 1 rfl) rfl <| r_aload_n (dc kc_X12_tellMend_1 2 rfl) rfl <| s_getI (dc kc_X12_tellMend_1 3 rfl) fl_X12_461 <| s_icmp_ne (tgt := 92) (dc kc_X12_tellMend_1 4 rfl) rfl (fun c80 => (?_)) (fun c80 => (?_))))
        · exfalso; omega
        · refine s_return (dc kc_X12_tellMend_1 10 rfl) rfl (Nat.zero_le _) (Nat.zero_le _) ?_
          refine hQ mi Ch.rf (Or.inr ⟨hp, ⟨L0, List.mem_cons_of_mem _ hL0, e3, e4⟩, fun L hL => ?_, K, hK, fun k => ?_, hf, hA⟩)
          · rcases List.mem_cons.mp hL with e | e
            · rw [e, hpr, hlen]; exact Or.inr ⟨heq, by omega⟩
            · exact hle L e
          · rw [hm k]
            constructor
            · rintro ⟨L, hL, r⟩; exact ⟨L, List.mem_cons_of_mem _ hL, r⟩
            · rintro ⟨L, hL, r⟩
              rcases List.mem_cons.mp hL with e | e
              · rw [e, hlen] at r; omega
              · exact ⟨L, e, r⟩
        · exfalso; omega
    · exact reset (Or.inr (fun L hL => by have := hle L hL; omega))
end LK2
