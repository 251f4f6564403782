/-! the reference: what a change costs, mends told -/
theorem lateF_iff {ρ : Int → Int} {c : Int} : ∀ {N : Nat}, lateF ρ c N = true ↔ ∃ w : Int, 0 ≤ w ∧ w < N ∧ ρ (646 + 7 * w + 2) = c ∧ 0 ≤ ρ (646 + 7 * w + 1) ∧ ρ 0 - 8 ≤ ρ (646 + 7 * w)
  | 0 => by
    rw [lateF]
    refine ⟨fun h => (by cases h), ?_⟩
    rintro ⟨w, h0, h1, _⟩
    omega
  | N + 1 => by
    rw [lateF, Bool.or_eq_true, lateF_iff, decide_eq_true_eq]
    constructor
    · rintro (⟨w, h0, h1, h2⟩ | h)
      · exact ⟨w, h0, by omega, h2⟩
      · exact ⟨N, by omega, by omega, h⟩
    · rintro ⟨w, h0, h1, h2⟩
      by_cases e : w = N
      · rw [e] at h2; exact Or.inr h2
      · exact Or.inl ⟨w, h0, by omega, h2⟩
/-- the path as it stands in rows -/
def Sav (mi : MI) (A : List PR) : Prop := ∀ (i : Nat) (q : PR), A[i]? = some q → mi 0 94 i = q.1 ∧ mi 0 95 i = q.2
/-- what is told so far -/
def Sm (ρ : Int → Int) (mi : MI) (X : List (List PR)) : Prop :=
  (X = [] ∧ mi 0 80 34 = -1) ∨ (1 ≤ mi 0 80 34 ∧ (∃ L ∈ X, prc ρ L = mi 0 80 34 ∧ (L.length : Int) = mi 0 80 35) ∧ (∀ L ∈ X, mi 0 80 34 < prc ρ L ∨ (mi 0 80 34 = prc ρ L ∧ mi 0 80 35 ≤ L.length)) ∧ ∃ K : List Int, K.Pairwise (· < ·) ∧ (∀ k, k ∈ K ↔ ∃ L ∈ X, prc ρ L = mi 0 80 34 ∧ (L.length : Int) = mi 0 80 35 ∧ key3 L = k) ∧ mi 0 80 36 = min (K.length : Int) 501 ∧ ∀ i : Nat, i < K.length → i < 501 → K[i]? = some (mi 0 93 i))
def pM (j : Nat) (k : Int) : Bool := j == 93 || (j == 80 && (k == 34 || k == 35 || k == 36))
theorem key3_snoc {L : List PR} {q : PR} : key3 (L ++ [q]) = key3 L * 300 + (11 * q.1 + q.2 + 2) := by
  unfold key3
  rw [List.foldl_append]
  rfl
theorem key3_bd : ∀ (k : Nat) (L : List PR), k ≤ 3 → L.length = k → (∀ q ∈ L, 0 ≤ q.1 ∧ q.1 < 24 ∧ -1 ≤ q.2 ∧ q.2 ≤ 9) → 0 ≤ key3 L ∧ (k ≤ 2 → key3 L < 90000) ∧ (k ≤ 1 → key3 L < 300) ∧ (k = 0 → key3 L = 0) ∧ key3 L < 27000000 := by
  intro k
  induction k with
  | zero =>
    intro L _ hl _
    have : L = [] := List.length_eq_zero_iff.mp hl
    subst this
    exact ⟨Int.le_refl _, fun _ => by decide, fun _ => by decide, fun _ => rfl, by decide⟩
  | succ k ih =>
    intro L hk hl hq
    have hne : L ≠ [] := fun z => by rw [z] at hl; cases hl
    have e := (List.dropLast_concat_getLast hne).symm
    have hm := hq (L.getLast hne) (List.getLast_mem hne)
    have i1 := ih L.dropLast (by omega) (by rw [List.length_dropLast]; omega) (fun q h => hq q (List.dropLast_subset L h))
    rw [e, key3_snoc]
    generalize key3 L.dropLast = x at *
    generalize L.getLast hne = q at *
    refine ⟨by omega, fun h => ?_, fun h => ?_, fun h => by omega, ?_⟩
    · have := i1.2.2.1 (by omega); omega
    · have := i1.2.2.2.1 (by omega); omega
    · have := i1.2.1 (by omega); omega
section LK1
variable {d n G : Nat} {mr : MR} {Q : V → MI → Nat → MR → Prop}
theorem knd_rg {c : Int} (h0 : 0 ≤ c) (h1 : c < 24) : 0 ≤ knd c ∧ knd c ≤ 4 := by unfold knd; split <;> (try split) <;> omega
theorem t_priceOf (hL : Lay G mr) {mi : MI} {c v : Int} (hc0 : 0 ≤ c) (hc1 : c < 24) (h8 : 0 ≤ mi 0 81 8 ∧ mi 0 81 8 ≤ 200) (h0 : 0 ≤ mi 0 81 0 ∧ mi 0 81 0 ≤ 1000000) (hp : ∀ i, 0 ≤ i → i < 5 → 1 ≤ mi 0 81 (102 + i) ∧ mi 0 81 (102 + i) ≤ 9) (hQ : Q (vI (prR (mi 0 81) c v)) mi n mr) : Tx (d+2) mt_X12_priceOf [vR (some (0, 80)), vI c, vI v] mi n mr Q := by
  refine tx_intro (ls := [vR (some (0, 80)), vI c, vI v, vX 0, vX 0, vX 0, vX 0]) om_X12_priceOf rfl (Nat.le_of_ble_eq_true rfl) ?_
  have hk := knd_rg hc0 hc1
  have hpk := hp (knd c) hk.1 (by omega)
  generalize hρ : mi 0 81 = ρ at *
  have ex : ∀ k, mi 0 81 k = ρ k := fun k => by rw [hρ]
  have e0 := ex 0
  have fin : ∀ p, p = ρ (102 + knd c) - (if lateF ρ c (ρ 8).toNat = true then 1 else 0) → ∀ x4 x5 x6 : V, Run (d+2) mt_X12_priceOf Q (n, mr, 0, 0) mi 116 [vR (some (0, 80)), vI c, vI v, vI (ρ (102 + knd c)), x4, x5, x6] [vI p] := by
    intro p ep x4 x5 x6
    have hp0 : -1 ≤ p ∧ p ≤ 9 := by rw [ep]; split <;> omega
    have hq2 : ∀ q, q = p - (if ρ 14 = 1 ∧ ρ (78 + c) = v then 1 else 0) → prR ρ c v = max 1 q := fun q eq => by unfold prR; rw [eq, ep]
    refine t_i3 (dc kc_X12_priceOf_1 25 rfl) (Nat.le_of_ble_eq_true rfl) rfl <| s_iload_n (dc kc_X12_priceOf_1 26 rfl) rfl <| r_aload_n (dc kc_X12_priceOf_1 27 rfl) rfl <| s_getA (dc kc_X12_priceOf_1 28 rfl) fl_X12_7 (ly_80_2 hL) <| k_b (dc kc_X12_priceOf_1 29 rfl) rfl <| s_iaload (dc kc_X12_priceOf_1 30 rfl) rfl (by first | omega | (simp [up] <;> omega)) (by first | omega | (simp [up] <;> omega)) <| k_i (dc kc_X12_priceOf_1 31 rfl) rfl <| s_icmp_ne (tgt := 146) (dc kc_X12_priceOf_1 32 rfl) rfl (fun c126 => (k_i (dc kc_X12_priceOf_2 3 rfl) rfl <| b_isub (dc kc_X12_priceOf_2 4 rfl) (by first | omega | (simp [up] <;> omega)) (by first | omega | (simp [up] <;> omega)) <| t_i3 (dc kc_X12_priceOf_2 5 rfl) (Nat.le_of_ble_eq_true rfl) rfl <| ?_)) (fun c126 => (r_aload_n (dc kc_X12_priceOf_1 33 rfl) rfl <| s_getA (dc kc_X12_priceOf_1 34 rfl) fl_X12_7 (ly_80_2 hL) <| k_b (dc kc_X12_priceOf_1 35 rfl) rfl <| s_iload_n (dc kc_X12_priceOf_1 36 rfl) rfl <| b_iadd (dc kc_X12_priceOf_1 37 rfl) (by first | omega | (simp [up] <;> omega)) (by first | omega | (simp [up] <;> omega)) <| s_iaload (dc kc_X12_priceOf_1 38 rfl) rfl (by first | omega | (simp [up] <;> omega)) (by first | omega | (simp [up] <;> omega)) <| s_iload_n (dc kc_X12_priceOf_1 39 rfl) rfl <| s_icmp_ne (tgt := 146) (dc kc_X12_priceOf_2 0 rfl) rfl (fun c139 => (k_i (dc kc_X12_priceOf_2 3 rfl) rfl <| b_isub (dc kc_X12_priceOf_2 4 rfl) (by first | omega | (simp [up] <;> omega)) (by first | omega | (simp [up] <;> omega)) <| t_i3 (dc kc_X12_priceOf_2 5 rfl) (Nat.le_of_ble_eq_true rfl) rfl <| ?_)) (fun c139 => (k_i (dc kc_X12_priceOf_2 1 rfl) rfl <| s_goto (tgt := 147) (dc kc_X12_priceOf_2 2 rfl) rfl <| b_isub (dc kc_X12_priceOf_2 4 rfl) (by first | omega | (simp [up] <;> omega)) (by first | omega | (simp [up] <;> omega)) <| t_i3 (dc kc_X12_priceOf_2 5 rfl) (Nat.le_of_ble_eq_true rfl) rfl <| ?_))))
    all_goals rw [ex] at c126
    · have := hq2 p (by rw [if_neg (fun z => c126 z.1)]; omega)
      rw [this] at hQ
      refine s_iload_n (dc kc_X12_priceOf_2 6 rfl) rfl <| k_i (dc kc_X12_priceOf_2 7 rfl) rfl <| s_icmp_ge (tgt := 158) (dc kc_X12_priceOf_2 8 rfl) rfl (fun c151 => (s_iload_n (dc kc_X12_priceOf_2 11 rfl) rfl <| s_ireturn (dc kc_X12_priceOf_2 12 rfl) rfl (Nat.zero_le _) (Nat.zero_le _) ?_)) (fun c151 => (k_i (dc kc_X12_priceOf_2 9 rfl) rfl <| s_goto (tgt := 159) (dc kc_X12_priceOf_2 10 rfl) rfl <| s_ireturn (dc kc_X12_priceOf_2 12 rfl) rfl (Nat.zero_le _) (Nat.zero_le _) ?_))
      · rw [show p - 0 = max 1 p by omega]; exact hQ
      · rw [show max 1 p = 1 by omega] at hQ; exact hQ
    all_goals rw [ex] at c139
    · have := hq2 p (by rw [if_neg (fun z => c139 z.2)]; omega)
      rw [this] at hQ
      refine s_iload_n (dc kc_X12_priceOf_2 6 rfl) rfl <| k_i (dc kc_X12_priceOf_2 7 rfl) rfl <| s_icmp_ge (tgt := 158) (dc kc_X12_priceOf_2 8 rfl) rfl (fun c151 => (s_iload_n (dc kc_X12_priceOf_2 11 rfl) rfl <| s_ireturn (dc kc_X12_priceOf_2 12 rfl) rfl (Nat.zero_le _) (Nat.zero_le _) ?_)) (fun c151 => (k_i (dc kc_X12_priceOf_2 9 rfl) rfl <| s_goto (tgt := 159) (dc kc_X12_priceOf_2 10 rfl) rfl <| s_ireturn (dc kc_X12_priceOf_2 12 rfl) rfl (Nat.zero_le _) (Nat.zero_le _) ?_))
      · rw [show p - 0 = max 1 p by omega]; exact hQ
      · rw [show max 1 p = 1 by omega] at hQ; exact hQ
    · have := hq2 (p - 1) (by rw [if_pos ⟨c126, c139⟩])
      rw [this] at hQ
      refine s_iload_n (dc kc_X12_priceOf_2 6 rfl) rfl <| k_i (dc kc_X12_priceOf_2 7 rfl) rfl <| s_icmp_ge (tgt := 158) (dc kc_X12_priceOf_2 8 rfl) rfl (fun c151 => (s_iload_n (dc kc_X12_priceOf_2 11 rfl) rfl <| s_ireturn (dc kc_X12_priceOf_2 12 rfl) rfl (Nat.zero_le _) (Nat.zero_le _) ?_)) (fun c151 => (k_i (dc kc_X12_priceOf_2 9 rfl) rfl <| s_goto (tgt := 159) (dc kc_X12_priceOf_2 10 rfl) rfl <| s_ireturn (dc kc_X12_priceOf_2 12 rfl) rfl (Nat.zero_le _) (Nat.zero_le _) ?_))
      · rw [show p - 1 = max 1 (p - 1) by omega]; exact hQ
      · rw [show max 1 (p - 1) = 1 by omega] at hQ; exact hQ
  have loop : ∀ w : Nat, w ≤ (ρ 8).toNat → ∀ x6 : V, Run (d+2) mt_X12_priceOf Q (n, mr, 0, 0) mi 19 [vR (some (0, 80)), vI c, vI v, vI (ρ (102 + knd c)), vI (bi (lateF ρ c w = true)), vI (w : Int), x6] [] := by
    refine nloop ?_
    intro w hw ih x6
    have e8 := ex 8
    by_cases he : (w : Int) < ρ 8
    · have key : ∀ b x6, b = bi (lateF ρ c (w + 1) = true) → Run (d+2) mt_X12_priceOf Q (n, mr, 0, 0) mi 96 [vR (some (0, 80)), vI c, vI v, vI (ρ (102 + knd c)), vI (bi (lateF ρ c w = true)), vI (w : Int), x6] [vI b] := by
        intro b x6 eb
        subst eb
        refine t_i4 (dc kc_X12_priceOf_1 15 rfl) (Nat.le_of_ble_eq_true rfl) rfl <| b_inc5 (dc kc_X12_priceOf_1 16 rfl) rfl (Nat.le_of_ble_eq_true rfl) rfl (by first | omega | (simp [up] <;> omega)) (by first | omega | (simp [up] <;> omega)) <| s_goto (tgt := 19) (dc kc_X12_priceOf_1 17 rfl) rfl <| ?_
        exact ih (by omega) _
      have hs : ∀ q : Bool, q = decide (ρ (646 + 7 * (w : Int) + 2) = c ∧ 0 ≤ ρ (646 + 7 * (w : Int) + 1) ∧ ρ 0 - 8 ≤ ρ (646 + 7 * (w : Int))) → lateF ρ c (w + 1) = (lateF ρ c w || q) := fun q eq => by rw [lateF, eq]
      refine s_iload (dc kc_X12_priceOf_0 12 rfl) rfl <| r_aload_n (dc kc_X12_priceOf_0 13 rfl) rfl <| s_getA (dc kc_X12_priceOf_0 14 rfl) fl_X12_7 (ly_80_2 hL) <| k_b (dc kc_X12_priceOf_0 15 rfl) rfl <| s_iaload (dc kc_X12_priceOf_0 16 rfl) rfl (by first | omega | (simp [up] <;> omega)) (by first | omega | (simp [up] <;> omega)) <| s_icmp_ge (tgt := 104) (dc kc_X12_priceOf_0 17 rfl) rfl (fun c28 => (?_)) (fun c28 => (k_s (dc kc_X12_priceOf_0 18 rfl) rfl <| k_b (dc kc_X12_priceOf_0 19 rfl) rfl <| s_iload (dc kc_X12_priceOf_0 20 rfl) rfl <| b_imul (dc kc_X12_priceOf_0 21 rfl) (by first | omega | (simp [up] <;> omega)) (by first | omega | (simp [up] <;> omega)) <| b_iadd (dc kc_X12_priceOf_0 22 rfl) (by first | omega | (simp [up] <;> omega)) (by first | omega | (simp [up] <;> omega)) <| t_i6 (dc kc_X12_priceOf_0 23 rfl) (Nat.le_of_ble_eq_true rfl) rfl <| s_iload (dc kc_X12_priceOf_0 24 rfl) rfl <| s_if_ne (tgt := 91) (dc kc_X12_priceOf_0 25 rfl) rfl (fun c44 => (k_i (dc kc_X12_priceOf_1 12 rfl) rfl <| s_goto (tgt := 96) (dc kc_X12_priceOf_1 13 rfl) rfl <| ?_)) (fun c44 => (r_aload_n (dc kc_X12_priceOf_0 26 rfl) rfl <| s_getA (dc kc_X12_priceOf_0 27 rfl) fl_X12_7 (ly_80_2 hL) <| s_iload (dc kc_X12_priceOf_0 28 rfl) rfl <| k_i (dc kc_X12_priceOf_0 29 rfl) rfl <| b_iadd (dc kc_X12_priceOf_0 30 rfl) (by first | omega | (simp [up] <;> omega)) (by first | omega | (simp [up] <;> omega)) <| s_iaload (dc kc_X12_priceOf_0 31 rfl) rfl (by first | omega | (simp [up] <;> omega)) (by first | omega | (simp [up] <;> omega)) <| s_iload_n (dc kc_X12_priceOf_0 32 rfl) rfl <| s_icmp_ne (tgt := 95) (dc kc_X12_priceOf_0 33 rfl) rfl (fun c57 => (k_i (dc kc_X12_priceOf_1 14 rfl) rfl <| ?_)) (fun c57 => (r_aload_n (dc kc_X12_priceOf_0 34 rfl) rfl <| s_getA (dc kc_X12_priceOf_0 35 rfl) fl_X12_7 (ly_80_2 hL) <| s_iload (dc kc_X12_priceOf_0 36 rfl) rfl <| k_i (dc kc_X12_priceOf_0 37 rfl) rfl <| b_iadd (dc kc_X12_priceOf_0 38 rfl) (by first | omega | (simp [up] <;> omega)) (by first | omega | (simp [up] <;> omega)) <| s_iaload (dc kc_X12_priceOf_0 39 rfl) rfl (by first | omega | (simp [up] <;> omega)) (by first | omega | (simp [up] <;> omega)) <| s_if_lt (tgt := 95) (dc kc_X12_priceOf_1 0 rfl) rfl (fun c69 => (k_i (dc kc_X12_priceOf_1 14 rfl) rfl <| ?_)) (fun c69 => (r_aload_n (dc kc_X12_priceOf_1 1 rfl) rfl <| s_getA (dc kc_X12_priceOf_1 2 rfl) fl_X12_7 (ly_80_2 hL) <| s_iload (dc kc_X12_priceOf_1 3 rfl) rfl <| s_iaload (dc kc_X12_priceOf_1 4 rfl) rfl (by first | omega | (simp [up] <;> omega)) (by first | omega | (simp [up] <;> omega)) <| r_aload_n (dc kc_X12_priceOf_1 5 rfl) rfl <| s_getA (dc kc_X12_priceOf_1 6 rfl) fl_X12_7 (ly_80_2 hL) <| k_i (dc kc_X12_priceOf_1 7 rfl) rfl <| s_iaload (dc kc_X12_priceOf_1 8 rfl) rfl (by first | omega | (simp [up] <;> omega)) (by first | omega | (simp [up] <;> omega)) <| k_b (dc kc_X12_priceOf_1 9 rfl) rfl <| b_isub (dc kc_X12_priceOf_1 10 rfl) (by first | omega | (simp [up] <;> omega)) (by first | omega | (simp [up] <;> omega)) <| s_icmp_lt (tgt := 95) (dc kc_X12_priceOf_1 11 rfl) rfl (fun c88 => (k_i (dc kc_X12_priceOf_1 14 rfl) rfl <| ?_)) (fun c88 => (k_i (dc kc_X12_priceOf_1 12 rfl) rfl <| s_goto (tgt := 96) (dc kc_X12_priceOf_1 13 rfl) rfl <| ?_))))))))))
      all_goals first | (exfalso; omega) | skip
      · exact key _ _ (by rw [bi_t]; rw [lateF, bi_ne0.mp c44, Bool.true_or])
      · rw [ex] at c57
        exact key _ _ (by rw [bi_f]; rw [hs false (by rw [eq_comm, decide_eq_false_iff_not]; exact fun z => c57 z.1), Bool.or_false]; exact bi_eq0.mp c44)
      · rw [ex] at c69
        exact key _ _ (by rw [bi_f]; rw [hs false (by rw [eq_comm, decide_eq_false_iff_not]; exact fun z => absurd z.2.1 (by omega)), Bool.or_false]; exact bi_eq0.mp c44)
      · simp only [ex] at c88
        exact key _ _ (by rw [bi_f]; rw [hs false (by rw [eq_comm, decide_eq_false_iff_not]; exact fun z => absurd z.2.2 (by omega)), Bool.or_false]; exact bi_eq0.mp c44)
      · simp only [ex] at c57 c69 c88
        exact key _ _ (by rw [bi_t]; rw [hs true (by rw [eq_comm, decide_eq_true_eq]; exact ⟨c57, by omega, by omega⟩), Bool.or_true])
    · have hw' : w = (ρ 8).toNat := by omega
      subst hw'
      refine s_iload (dc kc_X12_priceOf_0 12 rfl) rfl <| r_aload_n (dc kc_X12_priceOf_0 13 rfl) rfl <| s_getA (dc kc_X12_priceOf_0 14 rfl) fl_X12_7 (ly_80_2 hL) <| k_b (dc kc_X12_priceOf_0 15 rfl) rfl <| s_iaload (dc kc_X12_priceOf_0 16 rfl) rfl (by first | omega | (simp [up] <;> omega)) (by first | omega | (simp [up] <;> omega)) <| s_icmp_ge (tgt := 104) (dc kc_X12_priceOf_0 17 rfl) rfl (fun c28 => (s_iload_n (dc kc_X12_priceOf_1 18 rfl) rfl <| s_iload (dc kc_X12_priceOf_1 19 rfl) rfl <| s_if_eq (tgt := 114) (dc kc_X12_priceOf_1 20 rfl) rfl (fun c107 => (k_i (dc kc_X12_priceOf_1 23 rfl) rfl <| b_isub (dc kc_X12_priceOf_1 24 rfl) (by first | omega | (simp [up] <;> omega)) (by first | omega | (simp [up] <;> omega)) <| ?_)) (fun c107 => (k_i (dc kc_X12_priceOf_1 21 rfl) rfl <| s_goto (tgt := 115) (dc kc_X12_priceOf_1 22 rfl) rfl <| b_isub (dc kc_X12_priceOf_1 24 rfl) (by first | omega | (simp [up] <;> omega)) (by first | omega | (simp [up] <;> omega)) <| ?_)))) (fun c28 => (?_))
      · exact fin _ (by rw [if_neg (bi_eq0.mp c107)]) _ _ _
      · exact fin _ (by rw [if_pos (bi_ne0.mp c107)]) _ _ _
      · exfalso; omega
  refine r_aload_n (dc kc_X12_priceOf_0 0 rfl) rfl <| s_getA (dc kc_X12_priceOf_0 1 rfl) fl_X12_7 (ly_80_2 hL) <| k_b (dc kc_X12_priceOf_0 2 rfl) rfl <| s_iload_n (dc kc_X12_priceOf_0 3 rfl) rfl <| c_s1r (dc kc_X12_priceOf_0 4 rfl) cl_X12_444 rfl (Nat.le_of_ble_eq_true rfl) (Nat.zero_le _) (Nat.zero_le _) <| t_kindOf (by first | omega | (simp [up] <;> omega)) (by first | omega | (simp [up] <;> omega)) <| b_iadd (dc kc_X12_priceOf_0 5 rfl) (by first | omega | (simp [up] <;> omega)) (by first | omega | (simp [up] <;> omega)) <| s_iaload (dc kc_X12_priceOf_0 6 rfl) rfl (by first | omega | (simp [up] <;> omega)) (by first | omega | (simp [up] <;> omega)) <| t_i3 (dc kc_X12_priceOf_0 7 rfl) (Nat.le_of_ble_eq_true rfl) rfl <| k_i (dc kc_X12_priceOf_0 8 rfl) rfl <| t_i4 (dc kc_X12_priceOf_0 9 rfl) (Nat.le_of_ble_eq_true rfl) rfl <| k_i (dc kc_X12_priceOf_0 10 rfl) rfl <| t_i5 (dc kc_X12_priceOf_0 11 rfl) (Nat.le_of_ble_eq_true rfl) rfl <| ?_
  rw [ex]
  exact loop 0 (Nat.zero_le _) _
theorem t_mayChange (hL : Lay G mr) {mi : MI} {D c : Int} {A : List PR} (hD : D = A.length) (hA3 : A.length ≤ 2) (hS : Sav mi A) (hQ1 : bAnd (bShr (mi 0 97 D) c) 1 = 1 → (∀ q ∈ A, q.1 ≠ c) → Q (vI 1) mi n mr) (hQ0 : ¬ (bAnd (bShr (mi 0 97 D) c) 1 = 1 ∧ ∀ q ∈ A, q.1 ≠ c) → Q (vI 0) mi n mr) : Tx (d+1) mt_X12_mayChange [vR (some (0, 80)), vI D, vI c] mi n mr Q := by
  refine tx_intro (ls := [vR (some (0, 80)), vI D, vI c, vX 0, vX 0]) om_X12_mayChange rfl (Nat.le_of_ble_eq_true rfl) ?_
  have loop : ∀ i : Nat, i ≤ A.length → ∀ b : Int, b = bi (bAnd (bShr (mi 0 97 D) c) 1 = 1 ∧ c ∉ (A.take i).map Prod.fst) → Run (d+1) mt_X12_mayChange Q (n, mr, 0, 0) mi 23 [vR (some (0, 80)), vI D, vI c, vI b, vI (i : Int)] [] := by
    refine nloop ?_
    intro i hi ih b eb
    by_cases he : i < A.length
    · have hg : A[i]? = some A[i] := List.getElem?_eq_getElem he
      have hs := hS i _ hg
      have ht : A.take (i + 1) = A.take i ++ [A[i]] := by rw [List.take_add_one, hg]; rfl
      have ih := ih he
      rw [ht] at ih
      have key : ∀ b', b' = bi (bAnd (bShr (mi 0 97 D) c) 1 = 1 ∧ c ∉ (A.take i ++ [A[i]]).map Prod.fst) → Run (d+1) mt_X12_mayChange Q (n, mr, 0, 0) mi 49 [vR (some (0, 80)), vI D, vI c, vI b, vI (i : Int)] [vI b'] := by
        intro b' eb'
        refine t_i3 (dc kc_X12_mayChange 30 rfl) (Nat.le_of_ble_eq_true rfl) rfl <| b_inc4 (dc kc_X12_mayChange 31 rfl) rfl (Nat.le_of_ble_eq_true rfl) rfl (by first | omega | (simp [up] <;> omega)) (by first | omega | (simp [up] <;> omega)) <| s_goto (tgt := 23) (dc kc_X12_mayChange 32 rfl) rfl <| ?_
        exact ih b' eb'
      refine s_iload (dc kc_X12_mayChange 16 rfl) rfl <| s_iload_n (dc kc_X12_mayChange 17 rfl) rfl <| s_icmp_ge (tgt := 56) (dc kc_X12_mayChange 18 rfl) rfl (fun c26 => (?_)) (fun c26 => (s_iload_n (dc kc_X12_mayChange 19 rfl) rfl <| s_if_eq (tgt := 48) (dc kc_X12_mayChange 20 rfl) rfl (fun c30 => (k_i (dc kc_X12_mayChange 29 rfl) rfl <| ?_)) (fun c30 => (r_aload_n (dc kc_X12_mayChange 21 rfl) rfl <| s_getA (dc kc_X12_mayChange 22 rfl) fl_X12_55 (ly_80_38 hL) <| s_iload (dc kc_X12_mayChange 23 rfl) rfl <| s_iaload (dc kc_X12_mayChange 24 rfl) rfl (by first | omega | (simp [up] <;> omega)) (by first | omega | (simp [up] <;> omega)) <| s_iload_n (dc kc_X12_mayChange 25 rfl) rfl <| s_icmp_eq (tgt := 48) (dc kc_X12_mayChange 26 rfl) rfl (fun c41 => (k_i (dc kc_X12_mayChange 29 rfl) rfl <| ?_)) (fun c41 => (k_i (dc kc_X12_mayChange 27 rfl) rfl <| s_goto (tgt := 49) (dc kc_X12_mayChange 28 rfl) rfl <| ?_))))))
      all_goals first | (exfalso; omega) | skip
      · refine key 0 ?_
        rw [bi_f]
        intro z
        rw [eb, bi_t ⟨z.1, fun hq => z.2 (by rw [List.map_append]; exact List.mem_append_left _ hq)⟩] at c30
        omega
      · refine key 0 ?_
        rw [bi_f]
        intro z
        rw [hs.1] at c41
        exact z.2 (by rw [List.map_append, ← c41]; exact List.mem_append_right _ List.mem_cons_self)
      · refine key 1 ?_
        rw [bi_t]
        rw [eb] at c30
        have h1 := bi_ne0.mp c30
        refine ⟨h1.1, fun hq => ?_⟩
        rw [List.map_append] at hq
        rcases List.mem_append.mp hq with z | z
        · exact h1.2 z
        · rw [List.map_singleton, List.mem_singleton, ← hs.1] at z
          exact c41 z.symm
    · have hi' : i = A.length := by omega
      subst hi'
      rw [List.take_length] at eb
      have h01 : b = 0 ∨ b = 1 := by rw [eb]; exact bi_01
      refine s_iload (dc kc_X12_mayChange 16 rfl) rfl <| s_iload_n (dc kc_X12_mayChange 17 rfl) rfl <| s_icmp_ge (tgt := 56) (dc kc_X12_mayChange 18 rfl) rfl (fun c26 => (s_iload_n (dc kc_X12_mayChange 33 rfl) rfl <| s_zreturn (dc kc_X12_mayChange 34 rfl) rfl (by first | exact Or.inl rfl | exact Or.inr rfl | exact bi_01 | assumption) (Nat.zero_le _) (Nat.zero_le _) ?_)) (fun c26 => (?_))
      · rcases h01 with e | e
        · rw [e]
          exact hQ0 (fun z => by rw [e] at eb; exact bi_eq0.mp eb.symm ⟨z.1, fun w => by obtain ⟨q, hq, eq⟩ := List.mem_map.mp w; exact z.2 q hq eq⟩)
        · rw [e]
          rw [e] at eb
          have := bi_eq1.mp eb.symm
          exact hQ1 this.1 (fun q hq eq => this.2 (List.mem_map.mpr ⟨q, hq, eq⟩))
      · exfalso; omega
  refine r_aload_n (dc kc_X12_mayChange 0 rfl) rfl <| s_getA (dc kc_X12_mayChange 1 rfl) fl_X12_64 (ly_80_41 hL) <| s_iload_n (dc kc_X12_mayChange 2 rfl) rfl <| s_iaload (dc kc_X12_mayChange 3 rfl) rfl (by first | omega | (simp [up] <;> omega)) (by first | omega | (simp [up] <;> omega)) <| s_iload_n (dc kc_X12_mayChange 4 rfl) rfl <| s_ishr (dc kc_X12_mayChange 5 rfl) <| k_i (dc kc_X12_mayChange 6 rfl) rfl <| s_iand (dc kc_X12_mayChange 7 rfl) <| k_i (dc kc_X12_mayChange 8 rfl) rfl <| s_icmp_ne (tgt := 18) (dc kc_X12_mayChange 9 rfl) rfl (fun c11 => (k_i (dc kc_X12_mayChange 12 rfl) rfl <| t_i3 (dc kc_X12_mayChange 13 rfl) (Nat.le_of_ble_eq_true rfl) rfl <| k_i (dc kc_X12_mayChange 14 rfl) rfl <| t_i4 (dc kc_X12_mayChange 15 rfl) (Nat.le_of_ble_eq_true rfl) rfl <| ?_)) (fun c11 => (k_i (dc kc_X12_mayChange 10 rfl) rfl <| s_goto (tgt := 19) (dc kc_X12_mayChange 11 rfl) rfl <| t_i3 (dc kc_X12_mayChange 13 rfl) (Nat.le_of_ble_eq_true rfl) rfl <| k_i (dc kc_X12_mayChange 14 rfl) rfl <| t_i4 (dc kc_X12_mayChange 15 rfl) (Nat.le_of_ble_eq_true rfl) rfl <| ?_))
  · exact loop 0 (Nat.zero_le _) 0 (by rw [bi_f]; exact fun z => c11 z.1)
  · exact loop 0 (Nat.zero_le _) 1 (by rw [bi_t]; exact ⟨c11, by simp⟩)
theorem t_rowOf (hL : Lay G mr) {mi : MI} {x : Int} {A : List PR} (hx : x = A.length) (hA3 : A.length ≤ 3) (hS : Sav mi A) (hn : (A.map Prod.fst).Nodup) (hr : ∀ q ∈ A, 0 ≤ q.1 ∧ q.1 < 24 ∧ -1 ≤ q.2 ∧ q.2 ≤ 9) (hQ : Q (vL (key3 (srt A))) mi n mr) : Tx (d+2) mt_X12_rowOf [vR (some (0, 80)), vI x] mi n mr Q := by
  refine tx_intro (ls := [vR (some (0, 80)), vI x, vX 0, vX 0, vX 0, vX 0, vX 0, vX 0]) om_X12_rowOf rfl (Nat.le_of_ble_eq_true rfl) ?_
  have hsr := srt_srt A hn
  have hpm := srt_perm A
  have hlen := hpm.length_eq
  generalize hB : srt A = B at *
  have hrB : ∀ q ∈ B, 0 ≤ q.1 ∧ q.1 < 24 ∧ -1 ≤ q.2 ∧ q.2 ≤ 9 := fun q hq => hr q (hpm.mem_iff.mp hq)
  have hlt : ∀ i j (hi : i < B.length) (hj : j < B.length), i < j → B[i].1 < B[j].1 := fun i j hi hj h => List.pairwise_iff_getElem.mp hsr i j hi hj h
  have outer : ∀ k : Nat, k ≤ A.length → ∀ (last : Int) (x6 x7 : V), (∀ j (hj : j < B.length), (j < k → B[j].1 ≤ last) ∧ (k ≤ j → last < B[j].1)) → Run (d+2) mt_X12_rowOf Q (n, mr, 0, 0) mi 8 [vR (some (0, 80)), vI x, vL (key3 (B.take k)), vX 0, vI last, vI (k : Int), x6, x7] [] := by
    refine nloop ?_
    intro k hk ih last x6 x7 hl
    by_cases he : k < A.length
    · have hkB : k < B.length := by omega
      have hb := key3_bd k (B.take k) (by omega) (by rw [List.length_take]; omega) (fun q hq => hrB q (List.mem_of_mem_take hq))
      have hb2 := hb.2.1 (by omega)
      have inner : ∀ i : Nat, i ≤ A.length → ∀ (its : Int), ((its = -1 ∧ ∀ (j : Nat) q, j < i → A[j]? = some q → q.1 ≤ last) ∨ ∃ (p : Nat) (q : PR), its = p ∧ p < i ∧ A[p]? = some q ∧ last < q.1 ∧ ∀ (j : Nat) r, j < i → A[j]? = some r → last < r.1 → q.1 ≤ r.1) → Run (d+2) mt_X12_rowOf Q (n, mr, 0, 0) mi 20 [vR (some (0, 80)), vI x, vL (key3 (B.take k)), vX 0, vI last, vI (k : Int), vI its, vI (i : Int)] [] := by
        refine nloop ?_
        intro i hi ih2 its hinv
        by_cases hii : i < A.length
        · have hg : A[i]? = some A[i] := List.getElem?_eq_getElem hii
          have hs := (hS i _ hg).1
          have hits : -1 ≤ its ∧ its < 3 := by
            rcases hinv with ⟨z, _⟩ | ⟨p, q, z, z2, _⟩ <;> omega
          have ih2 := ih2 hii
          have key : ∀ its' : Int, ((its' = -1 ∧ ∀ (j : Nat) q, j < i + 1 → A[j]? = some q → q.1 ≤ last) ∨ ∃ (p : Nat) (q : PR), its' = p ∧ p < i + 1 ∧ A[p]? = some q ∧ last < q.1 ∧ ∀ (j : Nat) r, j < i + 1 → A[j]? = some r → last < r.1 → q.1 ≤ r.1) → Run (d+2) mt_X12_rowOf Q (n, mr, 0, 0) mi 68 [vR (some (0, 80)), vI x, vL (key3 (B.take k)), vX 0, vI last, vI (k : Int), vI its, vI (i : Int)] [vI its'] := by
            intro its' h'
            refine t_i6 (dc kc_X12_rowOf_0 37 rfl) (Nat.le_of_ble_eq_true rfl) rfl <| b_inc7 (dc kc_X12_rowOf_0 38 rfl) rfl (Nat.le_of_ble_eq_true rfl) rfl (by first | omega | (simp [up] <;> omega)) (by first | omega | (simp [up] <;> omega)) <| s_goto (tgt := 20) (dc kc_X12_rowOf_0 39 rfl) rfl <| ?_
            exact ih2 its' h'
          have old : A[i].1 ≤ last ∨ (∃ (p : Nat) (q : PR), its = p ∧ A[p]? = some q ∧ q.1 ≤ A[i].1) → ((its = -1 ∧ ∀ (j : Nat) q, j < i + 1 → A[j]? = some q → q.1 ≤ last) ∨ ∃ (p : Nat) (q : PR), its = p ∧ p < i + 1 ∧ A[p]? = some q ∧ last < q.1 ∧ ∀ (j : Nat) r, j < i + 1 → A[j]? = some r → last < r.1 → q.1 ≤ r.1) := by
            intro ho
            rcases hinv with ⟨z1, z2⟩ | ⟨p, q, z1, z2, z3, z4, z5⟩
            · left
              refine ⟨z1, fun j q hj hq => ?_⟩
              by_cases ej : j = i
              · subst ej
                rw [hg] at hq; cases hq
                rcases ho with w | ⟨p, _, w, _⟩ <;> omega
              · exact z2 j q (by omega) hq
            · right
              refine ⟨p, q, z1, by omega, z3, z4, fun j r hj hr hl => ?_⟩
              by_cases ej : j = i
              · subst ej
                rw [hg] at hr; cases hr
                rcases ho with w | ⟨p', q', w1, w2, w3⟩
                · omega
                · have : p' = p := by omega
                  subst this
                  rw [z3] at w2; cases w2; exact w3
              · exact z5 j r (by omega) hr hl
          refine s_iload (dc kc_X12_rowOf_0 13 rfl) rfl <| s_iload_n (dc kc_X12_rowOf_0 14 rfl) rfl <| s_icmp_ge (tgt := 76) (dc kc_X12_rowOf_0 15 rfl) rfl (fun c23 => (?_)) (fun c23 => (r_aload_n (dc kc_X12_rowOf_0 16 rfl) rfl <| s_getA (dc kc_X12_rowOf_0 17 rfl) fl_X12_55 (ly_80_38 hL) <| s_iload (dc kc_X12_rowOf_0 18 rfl) rfl <| s_iaload (dc kc_X12_rowOf_0 19 rfl) rfl (by first | omega | (simp [up] <;> omega)) (by first | omega | (simp [up] <;> omega)) <| s_iload (dc kc_X12_rowOf_0 20 rfl) rfl <| s_icmp_le (tgt := 66) (dc kc_X12_rowOf_0 21 rfl) rfl (fun c35 => (s_iload (dc kc_X12_rowOf_0 36 rfl) rfl <| ?_)) (fun c35 => (s_iload (dc kc_X12_rowOf_0 22 rfl) rfl <| k_i (dc kc_X12_rowOf_0 23 rfl) rfl <| s_icmp_eq (tgt := 61) (dc kc_X12_rowOf_0 24 rfl) rfl (fun c41 => (s_iload (dc kc_X12_rowOf_0 34 rfl) rfl <| s_goto (tgt := 68) (dc kc_X12_rowOf_0 35 rfl) rfl <| ?_)) (fun c41 => (r_aload_n (dc kc_X12_rowOf_0 25 rfl) rfl <| s_getA (dc kc_X12_rowOf_0 26 rfl) fl_X12_55 (ly_80_38 hL) <| s_iload (dc kc_X12_rowOf_0 27 rfl) rfl <| s_iaload (dc kc_X12_rowOf_0 28 rfl) rfl (by first | omega | (simp [up] <;> omega)) (by first | omega | (simp [up] <;> omega)) <| r_aload_n (dc kc_X12_rowOf_0 29 rfl) rfl <| s_getA (dc kc_X12_rowOf_0 30 rfl) fl_X12_55 (ly_80_38 hL) <| s_iload (dc kc_X12_rowOf_0 31 rfl) rfl <| s_iaload (dc kc_X12_rowOf_0 32 rfl) rfl (by first | omega | (simp [up] <;> omega)) (by first | omega | (simp [up] <;> omega)) <| s_icmp_ge (tgt := 66) (dc kc_X12_rowOf_0 33 rfl) rfl (fun c58 => (s_iload (dc kc_X12_rowOf_0 36 rfl) rfl <| ?_)) (fun c58 => (s_iload (dc kc_X12_rowOf_0 34 rfl) rfl <| s_goto (tgt := 68) (dc kc_X12_rowOf_0 35 rfl) rfl <| ?_))))))))
          all_goals first | (exfalso; omega) | skip
          · rw [hs] at c35
            exact key _ (old (Or.inl c35))
          · rw [hs] at c35
            refine key _ (Or.inr ⟨i, A[i], rfl, by omega, hg, c35, fun j r hj hr hl => ?_⟩)
            by_cases ej : j = i
            · subst ej; rw [hg] at hr; cases hr; omega
            · rcases hinv with ⟨z1, z2⟩ | ⟨p, q, z1, _⟩
              · have := z2 j r (by omega) hr; omega
              · omega
          · rw [hs] at c35
            rcases hinv with ⟨z1, _⟩ | ⟨p, q, z1, z2, z3, z4, z5⟩
            · exact absurd z1 c41
            · have hsp := (hS p q z3).1
              rw [hs, z1, hsp] at c58
              exact key _ (old (Or.inr ⟨p, q, z1, z3, c58⟩))
          · rw [hs] at c35
            rcases hinv with ⟨z1, _⟩ | ⟨p, q, z1, z2, z3, z4, z5⟩
            · exact absurd z1 c41
            · have hsp := (hS p q z3).1
              rw [hs, z1, hsp] at c58
              refine key _ (Or.inr ⟨i, A[i], rfl, by omega, hg, c35, fun j r hj hr hl => ?_⟩)
              by_cases ej : j = i
              · subst ej; rw [hg] at hr; cases hr; omega
              · have := z5 j r (by omega) hr hl; omega
        · have hi' : i = A.length := by omega
          subst hi'
          -- the next in order
          have hq0 : B[k] ∈ A := hpm.mem_iff.mp (List.getElem_mem hkB)
          obtain ⟨j0, hj0, ej0⟩ := List.getElem_of_mem hq0
          have hgj : A[j0]? = some B[k] := by rw [List.getElem?_eq_getElem hj0, ej0]
          have hlk := (hl k hkB).2 (Nat.le_refl _)
          rcases hinv with ⟨z1, z2⟩ | ⟨p, q, z1, z2, z3, z4, z5⟩
          · have := z2 j0 _ hj0 hgj; omega
          · have hle := z5 j0 _ hj0 hgj hlk
            have hqB : q ∈ B := hpm.mem_iff.mpr (List.mem_of_getElem? z3)
            obtain ⟨j, hj, ej⟩ := List.getElem_of_mem hqB
            have hjk : j = k := by
              by_cases e1 : j < k
              · have := (hl j hj).1 e1; rw [ej] at this; omega
              · by_cases e2 : k < j
                · have := hlt k j hkB hj e2; rw [ej] at this; omega
                · omega
            subst hjk
            have hsp := hS p q z3
            have hrq := hrB q hqB
            have ep1 : mi 0 94 its = q.1 := by rw [z1]; exact hsp.1
            have ep2 : mi 0 95 its = q.2 := by rw [z1]; exact hsp.2
            have htk : B.take (j + 1) = B.take j ++ [q] := by rw [List.take_add_one, List.getElem?_eq_getElem hj, ej]; rfl
            have ih' := ih he q.1 (vI its) (vI (A.length : Int)) (fun i hi => ⟨fun h => ?_, fun h => ?_⟩)
            · rw [htk, key3_snoc] at ih'
              refine s_iload (dc kc_X12_rowOf_0 13 rfl) rfl <| s_iload_n (dc kc_X12_rowOf_0 14 rfl) rfl <| s_icmp_ge (tgt := 76) (dc kc_X12_rowOf_0 15 rfl) rfl (fun c23 => (r_aload_n (dc kc_X12_rowOf_1 0 rfl) rfl <| s_getA (dc kc_X12_rowOf_1 1 rfl) fl_X12_55 (ly_80_38 hL) <| s_iload (dc kc_X12_rowOf_1 2 rfl) rfl <| s_iaload (dc kc_X12_rowOf_1 3 rfl) rfl (by first | omega | (simp [up] <;> omega)) (by first | omega | (simp [up] <;> omega)) <| t_i4 (dc kc_X12_rowOf_1 4 rfl) (Nat.le_of_ble_eq_true rfl) rfl <| s_lload_n (dc kc_X12_rowOf_1 5 rfl) rfl <| k_j (dc kc_X12_rowOf_1 6 rfl) kj_X12_449 rfl (a := 300) (by decide) <| b_lmul (dc kc_X12_rowOf_1 7 rfl) (by first | omega | (simp [up] <;> omega)) (by first | omega | (simp [up] <;> omega)) <| r_aload_n (dc kc_X12_rowOf_1 8 rfl) rfl <| s_getA (dc kc_X12_rowOf_1 9 rfl) fl_X12_55 (ly_80_38 hL) <| s_iload (dc kc_X12_rowOf_1 10 rfl) rfl <| s_iaload (dc kc_X12_rowOf_1 11 rfl) rfl (by first | omega | (simp [up] <;> omega)) (by first | omega | (simp [up] <;> omega)) <| r_aload_n (dc kc_X12_rowOf_1 12 rfl) rfl <| s_getA (dc kc_X12_rowOf_1 13 rfl) fl_X12_58 (ly_80_39 hL) <| s_iload (dc kc_X12_rowOf_1 14 rfl) rfl <| s_iaload (dc kc_X12_rowOf_1 15 rfl) rfl (by first | omega | (simp [up] <;> omega)) (by first | omega | (simp [up] <;> omega)) <| c_s2r (dc kc_X12_rowOf_1 16 rfl) cl_X12_451 rfl (Nat.le_of_ble_eq_true rfl) (Nat.zero_le _) (Nat.zero_le _) <| t_signOf (by first | omega | (simp [up] <;> omega)) (by first | omega | (simp [up] <;> omega)) <| b_ladd (dc kc_X12_rowOf_1 17 rfl) (by first | omega | (simp [up] <;> omega)) (by first | omega | (simp [up] <;> omega)) <| t_l2 (dc kc_X12_rowOf_1 18 rfl) (Nat.le_of_ble_eq_true rfl) rfl <| b_inc5 (dc kc_X12_rowOf_1 19 rfl) rfl (Nat.le_of_ble_eq_true rfl) rfl (by first | omega | (simp [up] <;> omega)) (by first | omega | (simp [up] <;> omega)) <| s_goto (tgt := 8) (dc kc_X12_rowOf_1 20 rfl) rfl <| ?_)) (fun c23 => (?_))
              · rw [ep1, ep2]
                rw [show key3 (List.take j B) * 300 + (11 * q.fst + q.snd + 2) = key3 (List.take j B) * 300 + (11 * q.1 + q.2 + 2) from rfl]
                exact ih'
              · exfalso; omega
            · by_cases e : i = j
              · subst e; rw [ej]; omega
              · have := hlt i j hi hj (by omega); rw [ej] at this; omega
            · have := hlt j i hj hi (by omega); rw [ej] at this; omega
      refine s_iload (dc kc_X12_rowOf_0 6 rfl) rfl <| s_iload_n (dc kc_X12_rowOf_0 7 rfl) rfl <| s_icmp_ge (tgt := 115) (dc kc_X12_rowOf_0 8 rfl) rfl (fun c11 => (?_)) (fun c11 => (k_i (dc kc_X12_rowOf_0 9 rfl) rfl <| t_i6 (dc kc_X12_rowOf_0 10 rfl) (Nat.le_of_ble_eq_true rfl) rfl <| k_i (dc kc_X12_rowOf_0 11 rfl) rfl <| t_i7 (dc kc_X12_rowOf_0 12 rfl) (Nat.le_of_ble_eq_true rfl) rfl <| ?_))
      · exfalso; omega
      · exact inner 0 (Nat.zero_le _) (-1) (Or.inl ⟨rfl, fun j q hj => by omega⟩)
    · have hk' : k = A.length := by omega
      subst hk'
      rw [← hlen, List.take_length]
      refine s_iload (dc kc_X12_rowOf_0 6 rfl) rfl <| s_iload_n (dc kc_X12_rowOf_0 7 rfl) rfl <| s_icmp_ge (tgt := 115) (dc kc_X12_rowOf_0 8 rfl) rfl (fun c11 => (s_lload_n (dc kc_X12_rowOf_1 21 rfl) rfl <| s_lreturn (dc kc_X12_rowOf_1 22 rfl) rfl (Nat.zero_le _) (Nat.zero_le _) ?_)) (fun c11 => (?_))
      · exact hQ
      · exfalso; omega
  refine s_lconst0 (dc kc_X12_rowOf_0 0 rfl) <| t_l2 (dc kc_X12_rowOf_0 1 rfl) (Nat.le_of_ble_eq_true rfl) rfl <| k_i (dc kc_X12_rowOf_0 2 rfl) rfl <| t_i4 (dc kc_X12_rowOf_0 3 rfl) (Nat.le_of_ble_eq_true rfl) rfl <| k_i (dc kc_X12_rowOf_0 4 rfl) rfl <| t_i5 (dc kc_X12_rowOf_0 5 rfl) (Nat.le_of_ble_eq_true rfl) rfl <| ?_
  exact outer 0 (Nat.zero_le _) (-1) _ _ (fun j hj => ⟨fun h => by omega, fun _ => by have := hrB _ (List.getElem_mem hj); omega⟩)
end LK1
