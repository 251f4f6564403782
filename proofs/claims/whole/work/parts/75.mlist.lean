/-! the class: its lists of mends -/
def key5 (L : List PR) : Int := L.foldl (fun k q => k * 512 + (16 * q.1 + q.2 + 1)) 0
theorem key5_snoc {L : List PR} {q : PR} : key5 (L ++ [q]) = key5 L * 512 + (16 * q.1 + q.2 + 1) := by
  unfold key5
  rw [List.foldl_append]
  rfl
theorem key5_bd : ∀ (k : Nat) (L : List PR), k ≤ 3 → L.length = k → (∀ q ∈ L, okP q) → 0 ≤ key5 L ∧ (k ≤ 2 → key5 L < 262144) ∧ (k ≤ 1 → key5 L < 512) ∧ (k = 0 → key5 L = 0) ∧ key5 L < 134217728 := by
  intro k
  induction k with
  | zero =>
    intro L _ hl _
    have : L = [] := List.length_eq_zero_iff.mp hl
    subst this
    exact ⟨Int.le_refl _, fun _ => by decide, fun _ => by decide, fun _ => rfl, by decide⟩
  | succ k ih =>
    intro L hk hl hq
    have hne : L ≠ [] := fun z => by rw [z] at hl; cases hl
    have e := (List.dropLast_concat_getLast hne).symm
    have hm := hq (L.getLast hne) (List.getLast_mem hne)
    have i1 := ih L.dropLast (by omega) (by rw [List.length_dropLast]; omega) (fun q h => hq q (List.dropLast_subset L h))
    rw [e, key5_snoc]
    unfold okP at hm
    generalize key5 L.dropLast = x at *
    generalize L.getLast hne = q at *
    refine ⟨by omega, fun h => ?_, fun h => ?_, fun h => by omega, ?_⟩
    · have := i1.2.2.1 (by omega); omega
    · have := i1.2.2.2.1 (by omega); omega
    · have := i1.2.1 (by omega); omega
/-- both orders are one -/
theorem key_lt : ∀ (k : Nat) {L L' : List PR}, L.length = k → L'.length = k → (∀ q ∈ L, okP q) → (∀ q ∈ L', okP q) → ((key3 L < key3 L' ↔ key5 L < key5 L') ∧ (key3 L = key3 L' ↔ key5 L = key5 L'))
  | 0, L, L', h, h', _, _ => by rw [List.length_eq_zero_iff.mp h, List.length_eq_zero_iff.mp h']; exact ⟨Iff.intro (fun z => absurd z (by decide)) (fun z => absurd z (by decide)), ⟨fun _ => rfl, fun _ => rfl⟩⟩
  | k + 1, L, L', h, h', hq, hq' => by
    have hne : L ≠ [] := fun z => by rw [z] at h; cases h
    have hne' : L' ≠ [] := fun z => by rw [z] at h'; cases h'
    have e1 := (List.dropLast_concat_getLast hne).symm
    have e2 := (List.dropLast_concat_getLast hne').symm
    have m1 := hq _ (List.getLast_mem hne)
    have m2 := hq' _ (List.getLast_mem hne')
    have ih := key_lt k (L := L.dropLast) (L' := L'.dropLast) (by rw [List.length_dropLast]; omega) (by rw [List.length_dropLast]; omega) (fun q z => hq q (List.dropLast_subset L z)) (fun q z => hq' q (List.dropLast_subset L' z))
    rw [e1, e2, key3_snoc, key3_snoc, key5_snoc, key5_snoc]
    unfold okP at m1 m2
    generalize L.getLast hne = q at *
    generalize L'.getLast hne' = q' at *
    generalize key3 L.dropLast = a at *
    generalize key3 L'.dropLast = a' at *
    generalize key5 L.dropLast = b at *
    generalize key5 L'.dropLast = b' at *
    omega
theorem insS_len1 {k : Int} : ∀ {K : List Int}, k ∉ K → (insS k K).length = K.length + 1
  | [], _ => rfl
  | y :: K, h => by
    rw [List.mem_cons, not_or] at h
    rw [insS]
    split
    · rfl
    · rw [if_neg h.1, List.length_cons, insS_len1 h.2]; rfl
/-- a list of mends in memory: its size, price, keys in order -/
def ML (mi : MI) (k : Nat) (C : Int) (P : Int) (K : List Int) : Prop := mi k 57 0 = C ∧ mi k 57 2 = (K.length : Int) ∧ (K ≠ [] → mi k 57 1 = P) ∧ K.Pairwise (· < ·) ∧ mi k 57 3 = min (K.length : Int) 500 ∧ ∀ (i : Nat) x, i < 500 → K[i]? = some x → mi k 58 i = x
def pML (k a b : Nat) (i : Int) : Bool := a == k && (b == 58 || (b == 57 && (i == 0 || i == 1 || i == 2 || i == 3)))
section MLS
variable {d n G : Nat} {mr : MR} {Q : V → MI → Nat → MR → Prop}
theorem u_mclear {mi : MI} {k : Nat} {c : Int} (hQ : ∀ mi', Cg (pML k) mi mi' → (∀ P, ML mi' k c P []) → Q (vX 0) mi' n mr) : Tx (d+1) mt_X3_clear [vR (some (k, 57)), vI c] mi n mr Q := by
  refine tx_intro (ls := [vR (some (k, 57)), vI c]) om_X3_clear rfl (Nat.le_of_ble_eq_true rfl) ?_
  refine r_aload_n (dc kc_X3_clear 0 rfl) rfl <| s_iload_n (dc kc_X3_clear 1 rfl) rfl <| s_putI (dc kc_X3_clear 2 rfl) fl_X3_9 <| r_aload_n (dc kc_X3_clear 3 rfl) rfl <| k_i (dc kc_X3_clear 4 rfl) rfl <| s_putI (dc kc_X3_clear 5 rfl) fl_X3_15 <| r_aload_n (dc kc_X3_clear 6 rfl) rfl <| k_i (dc kc_X3_clear 7 rfl) rfl <| s_putI (dc kc_X3_clear 8 rfl) fl_X3_18 <| r_aload_n (dc kc_X3_clear 9 rfl) rfl <| k_i (dc kc_X3_clear 10 rfl) rfl <| s_putI (dc kc_X3_clear 11 rfl) fl_X3_21 <| s_return (dc kc_X3_clear 12 rfl) rfl (Nat.zero_le _) (Nat.zero_le _) ?_
  refine hQ _ ((((Cg.rf.up (by simp [pML])).up (by simp [pML])).up (by simp [pML])).up (by simp [pML])) (fun P => ⟨by rw [up_k (by decide), up_k (by decide), up_k (by decide), up_at], by rw [up_k (by decide), up_at]; rfl, fun h => absurd rfl h, List.Pairwise.nil, by rw [up_at]; rfl, fun i x _ h => by cases h⟩)
theorem u_mhas {mi : MI} {k : Nat} {i : Int} (hQ : Q (vI (bi (0 ≤ i ∧ i < mi k 57 3))) mi n mr) : Tx (d+1) mt_X3_has [vR (some (k, 57)), vI i] mi n mr Q := by
  refine tx_intro (ls := [vR (some (k, 57)), vI i]) om_X3_has rfl (Nat.le_of_ble_eq_true rfl) ?_
  refine s_iload_n (dc kc_X3_has 0 rfl) rfl <| s_if_lt (tgt := 16) (dc kc_X3_has 1 rfl) rfl (fun c1 => (k_i (dc kc_X3_has 8 rfl) rfl <| s_zreturn (dc kc_X3_has 9 rfl) rfl (by first | exact Or.inl rfl | exact Or.inr rfl | exact bi_01 | assumption) (Nat.zero_le _) (Nat.zero_le _) ?_)) (fun c1 => (s_iload_n (dc kc_X3_has 2 rfl) rfl <| r_aload_n (dc kc_X3_has 3 rfl) rfl <| s_getI (dc kc_X3_has 4 rfl) fl_X3_21 <| s_icmp_ge (tgt := 16) (dc kc_X3_has 5 rfl) rfl (fun c9 => (k_i (dc kc_X3_has 8 rfl) rfl <| s_zreturn (dc kc_X3_has 9 rfl) rfl (by first | exact Or.inl rfl | exact Or.inr rfl | exact bi_01 | assumption) (Nat.zero_le _) (Nat.zero_le _) ?_)) (fun c9 => (k_i (dc kc_X3_has 6 rfl) rfl <| s_goto (tgt := 17) (dc kc_X3_has 7 rfl) rfl <| s_zreturn (dc kc_X3_has 9 rfl) rfl (by first | exact Or.inl rfl | exact Or.inr rfl | exact bi_01 | assumption) (Nat.zero_le _) (Nat.zero_le _) ?_))))
  all_goals (first | (rw [bi_t (by omega)] at hQ; exact hQ) | (rw [bi_f (by omega)] at hQ; exact hQ))
theorem u_placeFor (hL : Lay G mr) {mi : MI} {k : Nat} {x : Int} {K : List Int} (hk : k < 4) (hs : K.Pairwise (· < ·)) (h3 : mi k 57 3 = min (K.length : Int) 500) (he : ∀ (i : Nat) x, i < 500 → K[i]? = some x → mi k 58 i = x) (hQ : ∀ p : Nat, p ≤ min K.length 500 → (∀ (i : Nat) y, i < p → K[i]? = some y → y < x) → (∀ (i : Nat) y, p ≤ i → i < 500 → K[i]? = some y → x ≤ y) → Q (vI p) mi n mr) : Tx (d+1) mt_X3_placeFor [vR (some (k, 57)), vI x] mi n mr Q := by
  have hok : okI G 57 k := hk
  refine tx_intro (ls := [vR (some (k, 57)), vI x, vX 0, vX 0, vX 0, vX 0]) om_X3_placeFor rfl (Nat.le_of_ble_eq_true rfl) ?_
  have hmono : ∀ (i j : Nat) a b, i < j → K[i]? = some a → K[j]? = some b → a < b := fun i j a b hij h1 h2 => by
    obtain ⟨q1, e1⟩ := List.getElem?_eq_some_iff.mp h1
    obtain ⟨q2, e2⟩ := List.getElem?_eq_some_iff.mp h2
    have := List.pairwise_iff_getElem.mp hs i j q1 q2 hij
    rw [e1, e2] at this
    exact this
  have loop : ∀ (r : Nat) (lo hi : Nat) (c : Int) (x5 : V), hi - lo ≤ r → lo ≤ hi → hi ≤ min K.length 500 → 0 ≤ c → c + (hi - lo) ≤ 500 → (∀ (i : Nat) y, i < lo → K[i]? = some y → y < x) → (∀ (i : Nat) y, hi ≤ i → i < 500 → K[i]? = some y → x ≤ y) → Run (d+1) mt_X3_placeFor Q (n, mr, 0, 0) mi 10 [vR (some (k, 57)), vI x, vI (lo : Int), vI (hi : Int), vI c, x5] [] := by
    intro r
    induction r with
    | zero =>
      intro lo hi c x5 hr hlh hm hc0 hc hlo hup
      have e : lo = hi := by omega
      subst e
      refine s_iload (dc kc_X3_placeFor 7 rfl) rfl <| k_s (dc kc_X3_placeFor 8 rfl) rfl <| s_icmp_ge (tgt := 58) (dc kc_X3_placeFor 9 rfl) rfl (fun c15 => (s_iload_n (dc kc_X3_placeFor 34 rfl) rfl <| s_ireturn (dc kc_X3_placeFor 35 rfl) rfl (Nat.zero_le _) (Nat.zero_le _) ?_)) (fun c15 => (s_iload_n (dc kc_X3_placeFor 10 rfl) rfl <| s_iload_n (dc kc_X3_placeFor 11 rfl) rfl <| s_icmp_ge (tgt := 58) (dc kc_X3_placeFor 12 rfl) rfl (fun c20 => (s_iload_n (dc kc_X3_placeFor 34 rfl) rfl <| s_ireturn (dc kc_X3_placeFor 35 rfl) rfl (Nat.zero_le _) (Nat.zero_le _) ?_)) (fun c20 => (?_))))
      · exact hQ lo hm hlo hup
      · exact hQ lo hm hlo hup
      · exfalso; omega
    | succ r ih =>
      intro lo hi c x5 hr hlh hm hc0 hc hlo hup
      by_cases e : lo = hi
      · subst e
        refine s_iload (dc kc_X3_placeFor 7 rfl) rfl <| k_s (dc kc_X3_placeFor 8 rfl) rfl <| s_icmp_ge (tgt := 58) (dc kc_X3_placeFor 9 rfl) rfl (fun c15 => (s_iload_n (dc kc_X3_placeFor 34 rfl) rfl <| s_ireturn (dc kc_X3_placeFor 35 rfl) rfl (Nat.zero_le _) (Nat.zero_le _) ?_)) (fun c15 => (s_iload_n (dc kc_X3_placeFor 10 rfl) rfl <| s_iload_n (dc kc_X3_placeFor 11 rfl) rfl <| s_icmp_ge (tgt := 58) (dc kc_X3_placeFor 12 rfl) rfl (fun c20 => (s_iload_n (dc kc_X3_placeFor 34 rfl) rfl <| s_ireturn (dc kc_X3_placeFor 35 rfl) rfl (Nat.zero_le _) (Nat.zero_le _) ?_)) (fun c20 => (?_))))
        · exact hQ lo hm hlo hup
        · exact hQ lo hm hlo hup
        · exfalso; omega
      · have hmid : ((lo : Int) + hi) / 2 = (((lo + hi) / 2 : Nat) : Int) := by omega
        have hml : (lo + hi) / 2 < K.length := by omega
        have hg : K[(lo + hi) / 2]? = some K[(lo + hi) / 2] := List.getElem?_eq_getElem hml
        have hv := he ((lo + hi) / 2) _ (by omega) hg
        refine s_iload (dc kc_X3_placeFor 7 rfl) rfl <| k_s (dc kc_X3_placeFor 8 rfl) rfl <| s_icmp_ge (tgt := 58) (dc kc_X3_placeFor 9 rfl) rfl (fun c15 => (?_)) (fun c15 => (s_iload_n (dc kc_X3_placeFor 10 rfl) rfl <| s_iload_n (dc kc_X3_placeFor 11 rfl) rfl <| s_icmp_ge (tgt := 58) (dc kc_X3_placeFor 12 rfl) rfl (fun c20 => (?_)) (fun c20 => (s_iload_n (dc kc_X3_placeFor 13 rfl) rfl <| s_iload_n (dc kc_X3_placeFor 14 rfl) rfl <| b_iadd (dc kc_X3_placeFor 15 rfl) (by first | omega | (simp [up] <;> omega)) (by first | omega | (simp [up] <;> omega)) <| k_i (dc kc_X3_placeFor 16 rfl) rfl <| b_idiv (dc kc_X3_placeFor 17 rfl) (by first | omega | (simp [up] <;> omega)) (by first | omega | (simp [up] <;> omega)) <| t_i5 (dc kc_X3_placeFor 18 rfl) (Nat.le_of_ble_eq_true rfl) rfl <| r_aload_n (dc kc_X3_placeFor 19 rfl) rfl <| s_getA (dc kc_X3_placeFor 20 rfl) fl_X3_24 (ly_57_4 hL (by assumption)) <| s_iload (dc kc_X3_placeFor 21 rfl) rfl <| s_iaload (dc kc_X3_placeFor 22 rfl) rfl (by first | omega | (simp [up] <;> omega)) (by first | omega | (simp [up] <;> omega)) <| s_iload_n (dc kc_X3_placeFor 23 rfl) rfl <| s_icmp_ge (tgt := 49) (dc kc_X3_placeFor 24 rfl) rfl (fun c38 => (s_iload (dc kc_X3_placeFor 30 rfl) rfl <| t_i3 (dc kc_X3_placeFor 31 rfl) (Nat.le_of_ble_eq_true rfl) rfl <| b_inc4 (dc kc_X3_placeFor 32 rfl) rfl (Nat.le_of_ble_eq_true rfl) rfl (by first | omega | (simp [up] <;> omega)) (by first | omega | (simp [up] <;> omega)) <| s_goto (tgt := 10) (dc kc_X3_placeFor 33 rfl) rfl <| ?_)) (fun c38 => (s_iload (dc kc_X3_placeFor 25 rfl) rfl <| k_i (dc kc_X3_placeFor 26 rfl) rfl <| b_iadd (dc kc_X3_placeFor 27 rfl) (by first | omega | (simp [up] <;> omega)) (by first | omega | (simp [up] <;> omega)) <| t_i2 (dc kc_X3_placeFor 28 rfl) (Nat.le_of_ble_eq_true rfl) rfl <| s_goto (tgt := 52) (dc kc_X3_placeFor 29 rfl) rfl <| b_inc4 (dc kc_X3_placeFor 32 rfl) rfl (Nat.le_of_ble_eq_true rfl) rfl (by first | omega | (simp [up] <;> omega)) (by first | omega | (simp [up] <;> omega)) <| s_goto (tgt := 10) (dc kc_X3_placeFor 33 rfl) rfl <| ?_))))))
        · exfalso; omega
        · exfalso; omega
        · rw [hmid, hv] at c38
          rw [hmid]
          exact ih lo ((lo + hi) / 2) (c + 1) _ (by omega) (by omega) (by omega) (by omega) (by omega) hlo (fun i y a b z => by
            by_cases ei : i = (lo + hi) / 2
            · subst ei; rw [hg] at z; cases z; omega
            · have := hmono ((lo + hi) / 2) i _ _ (by omega) hg z; omega)
        · rw [hmid, hv] at c38
          rw [hmid, show (((lo + hi) / 2 : Nat) : Int) + 1 = (((lo + hi) / 2 + 1 : Nat) : Int) by omega]
          exact ih ((lo + hi) / 2 + 1) hi (c + 1) _ (by omega) (by omega) hm (by omega) (by omega) (fun i y a z => by
            by_cases ei : i = (lo + hi) / 2
            · subst ei; rw [hg] at z; cases z; omega
            · have := hmono i ((lo + hi) / 2) _ _ (by omega) z hg; omega) hup
  refine k_i (dc kc_X3_placeFor 0 rfl) rfl <| t_i2 (dc kc_X3_placeFor 1 rfl) (Nat.le_of_ble_eq_true rfl) rfl <| r_aload_n (dc kc_X3_placeFor 2 rfl) rfl <| s_getI (dc kc_X3_placeFor 3 rfl) fl_X3_21 <| t_i3 (dc kc_X3_placeFor 4 rfl) (Nat.le_of_ble_eq_true rfl) rfl <| k_i (dc kc_X3_placeFor 5 rfl) rfl <| t_i4 (dc kc_X3_placeFor 6 rfl) (Nat.le_of_ble_eq_true rfl) rfl <| ?_
  rw [h3]
  have := loop 500 0 (min K.length 500) 0 (vX 0) (by omega) (by omega) (by omega) (by omega) (by omega) (fun i y h => by omega) (fun i y a b z => by have := (List.getElem?_eq_some_iff.mp z).1; omega)
  rw [show (((min K.length 500 : Nat)) : Int) = min (K.length : Int) 500 by omega] at this
  exact this
theorem u_madd (hL : Lay G mr) {mi : MI} {k : Nat} {C P x p : Int} {K : List Int} (hk : k < 4) (hM : ML mi k C P K) (hb : (K.length : Int) ≤ 200000000) (hp : K ≠ [] → p ≤ P) (hx : K ≠ [] → p = P → x ∉ K) (hQ : ∀ mi' K', Cg (pML k) mi mi' → ML mi' k C p K' → (∀ y, y ∈ K' ↔ y = x ∨ (p = P ∧ y ∈ K)) → (K'.length : Int) ≤ (K.length : Int) + 1 → Q (vX 0) mi' n mr) : Tx (d+2) mt_X3_add [vR (some (k, 57)), vI x, vI p] mi n mr Q := by
  have hok : okI G 57 k := hk
  obtain ⟨m0, m2, m1, ms, m3, me⟩ := hM
  refine tx_intro (ls := [vR (some (k, 57)), vI x, vI p, vX 0]) om_X3_add rfl (Nat.le_of_ble_eq_true rfl) ?_
  -- behind the reset
  have body : ∀ (m : MI) (K1 : List Int) (x3 : V), Cg (pML k) mi m → m k 57 0 = C → m k 57 2 = (K1.length : Int) → K1.Pairwise (· < ·) → m k 57 3 = min (K1.length : Int) 500 → (∀ (i : Nat) x, i < 500 → K1[i]? = some x → m k 58 i = x) → x ∉ K1 → (K1.length : Int) ≤ K.length → (∀ y, y ∈ K1 ↔ (p = P ∧ y ∈ K)) → Run (d+2) mt_X3_add Q (n, mr, 0, 0) m 25 [vR (some (k, 57)), vI x, vI p, x3] [] := by
    intro m K1 x3 hC q0 q2 qs q3 qe hnx hlen hmem
    have e2 : up m k 57 1 p k 57 2 = (K1.length : Int) := by rw [up_k (by decide), q2]
    refine r_aload_n (dc kc_X3_add_0 13 rfl) rfl <| s_iload_n (dc kc_X3_add_0 14 rfl) rfl <| s_putI (dc kc_X3_add_0 15 rfl) fl_X3_15 <| r_aload_n (dc kc_X3_add_0 16 rfl) rfl <| s_dup (dc kc_X3_add_0 17 rfl) rfl <| s_getI (dc kc_X3_add_0 18 rfl) fl_X3_18 <| k_i (dc kc_X3_add_0 19 rfl) rfl <| b_iadd (dc kc_X3_add_0 20 rfl) (by first | omega | (simp [up] <;> omega)) (by first | omega | (simp [up] <;> omega)) <| s_putI (dc kc_X3_add_0 21 rfl) fl_X3_18 <| ?_
    rw [e2]
    have r3 : up (up m k 57 1 p) k 57 2 ((K1.length : Int) + 1) k 57 3 = min (K1.length : Int) 500 := by rw [up_k (by decide), up_k (by decide), q3]
    have r58 : up (up m k 57 1 p) k 57 2 ((K1.length : Int) + 1) k 58 = m k 58 := by rw [up_j (by decide), up_j (by decide)]
    have gC : Cg (pML k) mi (up (up m k 57 1 p) k 57 2 ((K1.length : Int) + 1)) := (hC.up (by simp [pML])).up (by simp [pML])
    have r0 : up (up m k 57 1 p) k 57 2 ((K1.length : Int) + 1) k 57 0 = C := by rw [up_k (by decide), up_k (by decide), q0]
    have r1 : up (up m k 57 1 p) k 57 2 ((K1.length : Int) + 1) k 57 1 = p := by rw [up_k (by decide), up_at]
    have r2 : up (up m k 57 1 p) k 57 2 ((K1.length : Int) + 1) k 57 2 = (K1.length : Int) + 1 := up_at
    generalize up (up m k 57 1 p) k 57 2 ((K1.length : Int) + 1) = m' at *
    refine r_aload_n (dc kc_X3_add_0 22 rfl) rfl <| s_iload_n (dc kc_X3_add_0 23 rfl) rfl <| c_v1r (dc kc_X3_add_0 24 rfl) cl_X3_28 rfl (Nat.le_of_ble_eq_true rfl) (Nat.zero_le _) (Nat.zero_le _) ?_
    refine u_placeFor hL hk qs r3 (fun i y a b => by rw [r58]; exact qe i y a b) (fun pl hpl hlt hge => ?_)
    -- the new list
    have hgt : ∀ y, pl < 500 → K1[pl]? = some y → x < y := fun y a z => by
      have h1 := hge pl y (Nat.le_refl _) a z
      have : x ≠ y := fun e => hnx (by rw [e]; exact List.mem_of_getElem? z)
      omega
    have memK : ∀ y, y ∈ insS x K1 ↔ y = x ∨ (p = P ∧ y ∈ K) := fun y => by rw [insS_mem, hmem y]
    refine t_i3 (dc kc_X3_add_0 25 rfl) (Nat.le_of_ble_eq_true rfl) rfl <| s_iload_n (dc kc_X3_add_0 26 rfl) rfl <| k_s (dc kc_X3_add_0 27 rfl) rfl <| s_icmp_lt (tgt := 54) (dc kc_X3_add_0 28 rfl) rfl (fun c50 => (?_)) (fun c50 => (s_return (dc kc_X3_add_0 29 rfl) rfl (Nat.zero_le _) (Nat.zero_le _) ?_))
    · by_cases h5 : pl < 500
      · have hat := insS_at (k := x) (K := K1) (p := pl) (by omega) (fun j y a b => hlt j y a b) (fun y z => hgt y h5 z)
        have fin : ∀ m'' : MI, Cg (pML k) mi m'' → m'' k 57 0 = C → m'' k 57 1 = p → m'' k 57 2 = (K1.length : Int) + 1 → m'' k 57 3 = min ((K1.length : Int) + 1) 500 → (∀ i : Nat, i < pl → m'' k 58 i = m k 58 i) → (∀ i : Nat, pl < i → i < 500 → (i : Int) < (K1.length : Int) + 1 → m'' k 58 i = m k 58 ((i : Int) - 1)) → m'' k 58 pl = x → Q (vX 0) m'' n mr := by
          intro m'' g'' s0 s1 s2 s3 sl sh sp
          refine hQ m'' (insS x K1) g'' ⟨s0, by rw [s2, hat.1]; omega, fun _ => s1, insS_srt qs, by rw [s3, hat.1]; omega, fun i y a z => ?_⟩ memK (by rw [hat.1]; omega)
          by_cases e1 : i < pl
          · rw [insS_pre (p := pl) (by omega) (fun j y a b => hlt j y a b) e1] at z
            rw [sl i e1]; exact qe i y a z
          · by_cases e2 : i = pl
            · subst e2; rw [hat.2.1] at z; cases z; exact sp
            · rw [hat.2.2 i (by omega)] at z
              have hi1 : i - 1 < K1.length := (List.getElem?_eq_some_iff.mp z).1
              rw [sh i (by omega) a (by omega)]
              have := qe (i - 1) y (by omega) z
              rw [show ((i - 1 : Nat) : Int) = (i : Int) - 1 by omega] at this
              exact this
        refine r_aload_n (dc kc_X3_add_0 30 rfl) rfl <| s_getI (dc kc_X3_add_0 31 rfl) fl_X3_21 <| k_s (dc kc_X3_add_0 32 rfl) rfl <| s_icmp_ge (tgt := 74) (dc kc_X3_add_0 33 rfl) rfl (fun c61 => (?_)) (fun c61 => (r_aload_n (dc kc_X3_add_0 34 rfl) rfl <| s_dup (dc kc_X3_add_0 35 rfl) rfl <| s_getI (dc kc_X3_add_0 36 rfl) fl_X3_21 <| k_i (dc kc_X3_add_0 37 rfl) rfl <| b_iadd (dc kc_X3_add_0 38 rfl) (by first | omega | (simp [up] <;> omega)) (by first | omega | (simp [up] <;> omega)) <| s_putI (dc kc_X3_add_0 39 rfl) fl_X3_21 <| ?_))
        · -- full
          rw [r3] at c61
          have k3 : m' k 57 3 = 500 := by rw [r3]; omega
          refine r_aload_n (dc kc_X3_add_1 0 rfl) rfl <| s_getA (dc kc_X3_add_1 1 rfl) fl_X3_24 (ly_57_4 hL (by assumption)) <| s_iload_n (dc kc_X3_add_1 2 rfl) rfl <| r_aload_n (dc kc_X3_add_1 3 rfl) rfl <| s_getA (dc kc_X3_add_1 4 rfl) fl_X3_24 (ly_57_4 hL (by assumption)) <| s_iload_n (dc kc_X3_add_1 5 rfl) rfl <| k_i (dc kc_X3_add_1 6 rfl) rfl <| b_iadd (dc kc_X3_add_1 7 rfl) (by first | omega | (simp [up] <;> omega)) (by first | omega | (simp [up] <;> omega)) <| r_aload_n (dc kc_X3_add_1 8 rfl) rfl <| s_getI (dc kc_X3_add_1 9 rfl) fl_X3_21 <| k_i (dc kc_X3_add_1 10 rfl) rfl <| b_isub (dc kc_X3_add_1 11 rfl) (by first | omega | (simp [up] <;> omega)) (by first | omega | (simp [up] <;> omega)) <| s_iload_n (dc kc_X3_add_1 12 rfl) rfl <| b_isub (dc kc_X3_add_1 13 rfl) (by first | omega | (simp [up] <;> omega)) (by first | omega | (simp [up] <;> omega)) <| s_copy (dc kc_X3_add_1 14 rfl) rfl rfl cp_X3_32 nat_copy st_copy it_J10 (by first | omega | (simp [up] <;> omega)) (by first | omega | (simp [up] <;> omega)) (by first | omega | (simp [up] <;> omega)) (by first | omega | (simp [up] <;> omega)) (by first | omega | (simp [up] <;> omega)) <| r_aload_n (dc kc_X3_add_1 15 rfl) rfl <| s_getA (dc kc_X3_add_1 16 rfl) fl_X3_24 (ly_57_4 hL (by assumption)) <| s_iload_n (dc kc_X3_add_1 17 rfl) rfl <| s_iload_n (dc kc_X3_add_1 18 rfl) rfl <| s_iastore (dc kc_X3_add_1 19 rfl) rfl (by first | omega | (simp [up] <;> omega)) (by first | omega | (simp [up] <;> omega)) <| s_return (dc kc_X3_add_1 20 rfl) rfl (Nat.zero_le _) (Nat.zero_le _) ?_
          rw [k3]
          have z58 : ∀ (f : Int → Int), up (upA m' k 58 f) k 58 pl x k 58 = ud f pl x := fun f => by rw [up_ud, upA_at]
          have z57 : ∀ (f : Int → Int), up (upA m' k 58 f) k 58 pl x k 57 = m' k 57 := fun f => by rw [up_j (by decide), upA_a (by simp)]
          refine fin _ ((gC.upA (fun i => by simp [pML])).up (by simp [pML])) (by rw [z57, r0]) (by rw [z57, r1]) (by rw [z57, r2]) (by rw [z57, k3]; omega) (fun i hi => ?_) (fun i h1 h2 h3 => ?_) (by rw [z58, ud_at])
          · rw [z58, ud_ne (by omega)]; unfold cpy; rw [if_neg (by omega), r58]
          · rw [z58, ud_ne (by omega)]; unfold cpy; rw [if_pos (by omega), r58]; congr 1; omega
        · rw [r3] at c61
          rw [r3]
          have k3 : ∀ v, up m' k 57 3 v k 57 3 = v := fun v => up_at
          have hkk : min (K1.length : Int) 500 = K1.length := by omega
          rw [hkk]
          refine r_aload_n (dc kc_X3_add_1 0 rfl) rfl <| s_getA (dc kc_X3_add_1 1 rfl) fl_X3_24 (ly_57_4 hL (by assumption)) <| s_iload_n (dc kc_X3_add_1 2 rfl) rfl <| r_aload_n (dc kc_X3_add_1 3 rfl) rfl <| s_getA (dc kc_X3_add_1 4 rfl) fl_X3_24 (ly_57_4 hL (by assumption)) <| s_iload_n (dc kc_X3_add_1 5 rfl) rfl <| k_i (dc kc_X3_add_1 6 rfl) rfl <| b_iadd (dc kc_X3_add_1 7 rfl) (by first | omega | (simp [up] <;> omega)) (by first | omega | (simp [up] <;> omega)) <| r_aload_n (dc kc_X3_add_1 8 rfl) rfl <| s_getI (dc kc_X3_add_1 9 rfl) fl_X3_21 <| k_i (dc kc_X3_add_1 10 rfl) rfl <| b_isub (dc kc_X3_add_1 11 rfl) (by first | omega | (simp [up] <;> omega)) (by first | omega | (simp [up] <;> omega)) <| s_iload_n (dc kc_X3_add_1 12 rfl) rfl <| b_isub (dc kc_X3_add_1 13 rfl) (by first | omega | (simp [up] <;> omega)) (by first | omega | (simp [up] <;> omega)) <| s_copy (dc kc_X3_add_1 14 rfl) rfl rfl cp_X3_32 nat_copy st_copy it_J10 (by first | omega | (simp [up] <;> omega)) (by first | omega | (simp [up] <;> omega)) (by first | omega | (simp [up] <;> omega)) (by first | omega | (simp [up] <;> omega)) (by first | omega | (simp [up] <;> omega)) <| r_aload_n (dc kc_X3_add_1 15 rfl) rfl <| s_getA (dc kc_X3_add_1 16 rfl) fl_X3_24 (ly_57_4 hL (by assumption)) <| s_iload_n (dc kc_X3_add_1 17 rfl) rfl <| s_iload_n (dc kc_X3_add_1 18 rfl) rfl <| s_iastore (dc kc_X3_add_1 19 rfl) rfl (by first | omega | (simp [up] <;> omega)) (by first | omega | (simp [up] <;> omega)) <| s_return (dc kc_X3_add_1 20 rfl) rfl (Nat.zero_le _) (Nat.zero_le _) ?_
          rw [k3]
          have y58 : up m' k 57 3 ((K1.length : Int) + 1) k 58 = m k 58 := by rw [up_j (by decide), r58]
          have z58 : ∀ (f : Int → Int), up (upA (up m' k 57 3 ((K1.length : Int) + 1)) k 58 f) k 58 pl x k 58 = ud f pl x := fun f => by rw [up_ud, upA_at]
          have z57 : ∀ (f : Int → Int), up (upA (up m' k 57 3 ((K1.length : Int) + 1)) k 58 f) k 58 pl x k 57 = up m' k 57 3 ((K1.length : Int) + 1) k 57 := fun f => by rw [up_j (by decide), upA_a (by simp)]
          refine fin _ (((gC.up (by simp [pML])).upA (fun i => by simp [pML])).up (by simp [pML])) (by rw [z57, up_k (by decide), r0]) (by rw [z57, up_k (by decide), r1]) (by rw [z57, up_k (by decide), r2]) (by rw [z57, up_at]; omega) (fun i hi => ?_) (fun i h1 h2 h3 => ?_) (by rw [z58, ud_at])
          · rw [z58, ud_ne (by omega)]; unfold cpy; rw [if_neg (by omega), y58]
          · rw [z58, ud_ne (by omega)]; unfold cpy; rw [if_pos (by omega), y58]; congr 1; omega
      · exfalso; omega
    · have hpl5 : pl = 500 := by omega
      subst hpl5
      have hl := insS_len1 hnx
      refine hQ m' (insS x K1) gC ⟨r0, by rw [r2, hl]; omega, fun _ => r1, insS_srt qs, by rw [r3, hl]; omega, fun i y a z => ?_⟩ memK (by rw [hl]; omega)
      rw [insS_pre (p := 500) (by omega) (fun j y a b => hlt j y a b) a] at z
      rw [r58]; exact qe i y a z
  refine r_aload_n (dc kc_X3_add_0 0 rfl) rfl <| s_getI (dc kc_X3_add_0 1 rfl) fl_X3_18 <| s_if_le (tgt := 25) (dc kc_X3_add_0 2 rfl) rfl (fun c4 => (?_)) (fun c4 => (s_iload_n (dc kc_X3_add_0 3 rfl) rfl <| r_aload_n (dc kc_X3_add_0 4 rfl) rfl <| s_getI (dc kc_X3_add_0 5 rfl) fl_X3_15 <| s_icmp_ge (tgt := 25) (dc kc_X3_add_0 6 rfl) rfl (fun c12 => (?_)) (fun c12 => (r_aload_n (dc kc_X3_add_0 7 rfl) rfl <| k_i (dc kc_X3_add_0 8 rfl) rfl <| s_putI (dc kc_X3_add_0 9 rfl) fl_X3_18 <| r_aload_n (dc kc_X3_add_0 10 rfl) rfl <| k_i (dc kc_X3_add_0 11 rfl) rfl <| s_putI (dc kc_X3_add_0 12 rfl) fl_X3_21 <| ?_))))
  · have hK : K = [] := List.length_eq_zero_iff.mp (by omega)
    refine body mi K _ Cg.rf m0 m2 ms m3 me (by rw [hK]; simp) (Int.le_refl _) (fun y => by rw [hK]; simp)
  · have hK : K ≠ [] := fun z => by rw [z] at m2; simp at m2; omega
    have hp1 := hp hK
    have hP := m1 hK
    have ep : p = P := by omega
    exact body mi K _ Cg.rf m0 m2 ms m3 me (hx hK ep) (Int.le_refl _) (fun y => ⟨fun h => ⟨ep, h⟩, fun h => h.2⟩)
  · have hK : K ≠ [] := fun z => by rw [z] at m2; simp at m2; omega
    have hP := m1 hK
    refine body _ [] _ ((Cg.rf.up (by simp [pML])).up (by simp [pML])) (by rw [up_k (by decide), up_k (by decide), m0]) (by rw [up_k (by decide), up_at]; rfl) List.Pairwise.nil (by rw [up_at]; rfl) (fun i y _ h => by cases h) (by simp) (by simp) (fun y => ⟨fun h => (by cases h), fun h => absurd h.1 (by omega)⟩)
end MLS
