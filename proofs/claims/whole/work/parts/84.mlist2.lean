/-! the class: the mends of a list, what of them differs -/
theorem Keys5.lst {ρ : Int → Int} {P : Int} {C : Nat} {K : List Int} (h : Keys key5 ρ P C K) : ∃ Y, Lst ρ P C Y ∧ Y.map key5 = K := by
  obtain ⟨Y, e, hY⟩ := list_choose (f := key5) (p := fun L => Mnd ρ L ∧ (L.length : Int) = C ∧ prc ρ L = P) K (fun k hk => by
    obtain ⟨L, z1, z2, z3, z4⟩ := (h.2 k).mp hk
    exact ⟨L, ⟨z1, z2, z3⟩, z4⟩)
  refine ⟨Y, ⟨?_, fun L => ⟨fun z => hY L z, fun z => ?_⟩⟩, e⟩
  · have hp := h.1
    rw [← e, List.pairwise_map] at hp
    rw [List.pairwise_map]
    refine hp.imp_of_mem (fun {a b} ha hb hab => ?_)
    have h1 := hY a ha
    have h2 := hY b hb
    exact (key_lt C (by omega) (by omega) h1.1.ok h2.1.ok).1.mpr hab
  · have : key5 L ∈ Y.map key5 := by rw [e]; exact (h.2 _).mpr ⟨L, z.1, z.2.1, z.2.2, rfl⟩
    obtain ⟨L', w1, w2⟩ := List.mem_map.mp this
    have h1 := hY L' w1
    have : L' = L := key5_inj (k := C) (by omega) (by omega) h1.1.ok z.1.ok w2
    rw [← this]; exact w1
theorem Lst.uniq {ρ : Int → Int} {P C : Int} {Y Y' : List (List PR)} (h : Lst ρ P C Y) (h' : Lst ρ P C Y') : Y = Y' := by
  have a := h.1
  have b := h'.1
  rw [List.pairwise_map] at a b
  exact srt_eq key3 a b (fun L => (h.2 L).trans (h'.2 L).symm)
theorem Least.uniq {ρ : Int → Int} {m P C P' C' : Int} (h : Least ρ m P C) (h' : Least ρ m P' C') : P = P' ∧ C = C' := by
  obtain ⟨⟨L, a1, a2, a3⟩, a4, a5⟩ := h
  obtain ⟨⟨L', b1, b2, b3⟩, b4, b5⟩ := h'
  have x := a5 L' b1 (by omega)
  have y := b5 L a1 (by omega)
  omega
theorem pair_at : ∀ {L : List PR} {j : Nat} {q : PR}, L.length ≤ 3 → (∀ q ∈ L, okP q) → L[j]? = some q → bAnd (bShr (key5 L) (9 * ((L.length : Int) - 1 - j))) 511 = cod q := by
  intro L j q h3 hq hj
  have hb := key5_bd L.length L h3 rfl hq
  have hn : key5 L = (((key5 L).toNat : Nat) : Int) := (Int.toNat_of_nonneg hb.1).symm
  have hlt : (key5 L).toNat < 2147483648 := by omega
  have s0 := sr0 hlt
  have s9 := sr9 hlt
  have s18 := sr18 hlt
  rw [← hn] at s0 s9 s18
  have hjl := (List.getElem?_eq_some_iff.mp hj).1
  match L, h3, j, hjl with
  | [a], _, 0, _ =>
    rw [← (show a = q from Option.some.inj hj)]
    have oa := cod_ok (hq a (by simp))
    rw [show (9 : Int) * ((([a] : List PR).length : Int) - 1 - ((0 : Nat) : Int)) = 0 from rfl, s0, and511 hb.1 (by omega), key5_1]; omega
  | [a, b], _, 0, _ =>
    rw [← (show a = q from Option.some.inj hj)]
    have oa := cod_ok (hq a (by simp))
    have ob := cod_ok (hq b (by simp))
    rw [show (9 : Int) * ((([a, b] : List PR).length : Int) - 1 - ((0 : Nat) : Int)) = 9 from rfl, s9, and511 (by omega) (by omega)]
    have := key5_2 (a := a) (b := b)
    omega
  | [a, b], _, 1, _ =>
    rw [← (show b = q from Option.some.inj hj)]
    have oa := cod_ok (hq a (by simp))
    have ob := cod_ok (hq b (by simp))
    rw [show (9 : Int) * ((([a, b] : List PR).length : Int) - 1 - ((1 : Nat) : Int)) = 0 from rfl, s0, and511 hb.1 (by omega), key5_2]; omega
  | [a, b, c], _, 0, _ =>
    rw [← (show a = q from Option.some.inj hj)]
    have oa := cod_ok (hq a (by simp))
    have ob := cod_ok (hq b (by simp))
    have oc := cod_ok (hq c (by simp))
    rw [show (9 : Int) * ((([a, b, c] : List PR).length : Int) - 1 - ((0 : Nat) : Int)) = 18 from rfl, s18, and511 (by omega) (by omega)]
    have := key5_3 (a := a) (b := b) (c := c)
    omega
  | [a, b, c], _, 1, _ =>
    rw [← (show b = q from Option.some.inj hj)]
    have oa := cod_ok (hq a (by simp))
    have ob := cod_ok (hq b (by simp))
    have oc := cod_ok (hq c (by simp))
    rw [show (9 : Int) * ((([a, b, c] : List PR).length : Int) - 1 - ((1 : Nat) : Int)) = 9 from rfl, s9, and511 (by omega) (by omega)]
    have := key5_3 (a := a) (b := b) (c := c)
    omega
  | [a, b, c], _, 2, _ =>
    rw [← (show c = q from Option.some.inj hj)]
    have oa := cod_ok (hq a (by simp))
    have ob := cod_ok (hq b (by simp))
    have oc := cod_ok (hq c (by simp))
    rw [show (9 : Int) * ((([a, b, c] : List PR).length : Int) - 1 - ((2 : Nat) : Int)) = 0 from rfl, s0, and511 hb.1 (by omega), key5_3]; omega
theorem cod_cell {q : PR} (h : okP q) : bShr (cod q) 4 = q.1 := by
  have ho := cod_ok h
  have := sr4 (a := (cod q).toNat) (by omega)
  rw [Int.toNat_of_nonneg ho.1] at this
  rw [this]
  unfold okP at h
  unfold cod at *
  omega
theorem cod_val {q : PR} (h : okP q) : bAnd (cod q) 15 - 1 = q.2 := by
  have ho := cod_ok h
  rw [iand15 ho.1 (by omega)]
  unfold okP at h
  unfold cod
  omega
theorem cod_inj {q q' : PR} (h : okP q) (h' : okP q') (e : cod q = cod q') : q = q' := by
  unfold okP at h h'
  unfold cod at e
  exact Prod.ext (by omega) (by omega)
section ML2
variable {d n G : Nat} {mr : MR} {Q : V → MI → Nat → MR → Prop}
theorem u_pairOf {mi : MI} {k j : Nat} {L : List PR} {q : PR} (h0 : mi k 57 0 = (L.length : Int)) (h3 : L.length ≤ 3) (hq : ∀ q ∈ L, okP q) (hj : L[j]? = some q) (hQ : Q (vI (cod q)) mi n mr) : Tx (d+1) mt_X3_pairOf [vR (some (k, 57)), vI (key5 L), vI (j : Int)] mi n mr Q := by
  have hjl := (List.getElem?_eq_some_iff.mp hj).1
  refine tx_intro (ls := [vR (some (k, 57)), vI (key5 L), vI (j : Int)]) om_X3_pairOf rfl (Nat.le_of_ble_eq_true rfl) ?_
  refine s_iload_n (dc kc_X3_pairOf 0 rfl) rfl <| k_b (dc kc_X3_pairOf 1 rfl) rfl <| r_aload_n (dc kc_X3_pairOf 2 rfl) rfl <| s_getI (dc kc_X3_pairOf 3 rfl) fl_X3_9 <| k_i (dc kc_X3_pairOf 4 rfl) rfl <| b_isub (dc kc_X3_pairOf 5 rfl) (by first | omega | (simp [up] <;> omega)) (by first | omega | (simp [up] <;> omega)) <| s_iload_n (dc kc_X3_pairOf 6 rfl) rfl <| b_isub (dc kc_X3_pairOf 7 rfl) (by first | omega | (simp [up] <;> omega)) (by first | omega | (simp [up] <;> omega)) <| b_imul (dc kc_X3_pairOf 8 rfl) (by first | omega | (simp [up] <;> omega)) (by first | omega | (simp [up] <;> omega)) <| s_ishr (dc kc_X3_pairOf 9 rfl) <| k_s (dc kc_X3_pairOf 10 rfl) rfl <| s_iand (dc kc_X3_pairOf 11 rfl) <| s_ireturn (dc kc_X3_pairOf 12 rfl) rfl (Nat.zero_le _) (Nat.zero_le _) ?_
  rw [h0, pair_at h3 hq hj]
  exact hQ
theorem u_cellOf (hL : Lay G mr) {mi : MI} {k i j : Nat} {L : List PR} {q : PR} (hk : k < 4) (hi : i < 500) (h58 : mi k 58 i = key5 L) (h0 : mi k 57 0 = (L.length : Int)) (h3 : L.length ≤ 3) (hq : ∀ q ∈ L, okP q) (hj : L[j]? = some q) (hQ : Q (vI q.1) mi n mr) : Tx (d+2) mt_X3_cellOf [vR (some (k, 57)), vI (i : Int), vI (j : Int)] mi n mr Q := by
  have hok : okI G 57 k := hk
  refine tx_intro (ls := [vR (some (k, 57)), vI (i : Int), vI (j : Int)]) om_X3_cellOf rfl (Nat.le_of_ble_eq_true rfl) ?_
  refine r_aload_n (dc kc_X3_cellOf 0 rfl) rfl <| r_aload_n (dc kc_X3_cellOf 1 rfl) rfl <| s_getA (dc kc_X3_cellOf 2 rfl) fl_X3_24 (ly_57_4 hL (by assumption)) <| s_iload_n (dc kc_X3_cellOf 3 rfl) rfl <| s_iaload (dc kc_X3_cellOf 4 rfl) rfl (by first | omega | (simp [up] <;> omega)) (by first | omega | (simp [up] <;> omega)) <| s_iload_n (dc kc_X3_cellOf 5 rfl) rfl <| c_v2r (dc kc_X3_cellOf 6 rfl) cl_X3_38 rfl (Nat.le_of_ble_eq_true rfl) (Nat.zero_le _) (Nat.zero_le _) ?_
  rw [h58]
  refine u_pairOf h0 h3 hq hj ?_
  refine k_i (dc kc_X3_cellOf 7 rfl) rfl <| s_ishr (dc kc_X3_cellOf 8 rfl) <| s_ireturn (dc kc_X3_cellOf 9 rfl) rfl (Nat.zero_le _) (Nat.zero_le _) ?_
  rw [cod_cell (hq q (List.mem_of_getElem? hj))]
  exact hQ
theorem u_valueOf (hL : Lay G mr) {mi : MI} {k i j : Nat} {L : List PR} {q : PR} (hk : k < 4) (hi : i < 500) (h58 : mi k 58 i = key5 L) (h0 : mi k 57 0 = (L.length : Int)) (h3 : L.length ≤ 3) (hq : ∀ q ∈ L, okP q) (hj : L[j]? = some q) (hQ : Q (vI q.2) mi n mr) : Tx (d+2) mt_X3_valueOf [vR (some (k, 57)), vI (i : Int), vI (j : Int)] mi n mr Q := by
  have hok : okI G 57 k := hk
  have hoq := hq q (List.mem_of_getElem? hj)
  have hv := cod_val hoq
  have hoq' := hoq
  unfold okP at hoq'
  refine tx_intro (ls := [vR (some (k, 57)), vI (i : Int), vI (j : Int)]) om_X3_valueOf rfl (Nat.le_of_ble_eq_true rfl) ?_
  refine r_aload_n (dc kc_X3_valueOf 0 rfl) rfl <| r_aload_n (dc kc_X3_valueOf 1 rfl) rfl <| s_getA (dc kc_X3_valueOf 2 rfl) fl_X3_24 (ly_57_4 hL (by assumption)) <| s_iload_n (dc kc_X3_valueOf 3 rfl) rfl <| s_iaload (dc kc_X3_valueOf 4 rfl) rfl (by first | omega | (simp [up] <;> omega)) (by first | omega | (simp [up] <;> omega)) <| s_iload_n (dc kc_X3_valueOf 5 rfl) rfl <| c_v2r (dc kc_X3_valueOf 6 rfl) cl_X3_38 rfl (Nat.le_of_ble_eq_true rfl) (Nat.zero_le _) (Nat.zero_le _) ?_
  rw [h58]
  refine u_pairOf h0 h3 hq hj ?_
  refine k_b (dc kc_X3_valueOf 7 rfl) rfl <| s_iand (dc kc_X3_valueOf 8 rfl) <| k_i (dc kc_X3_valueOf 9 rfl) rfl <| b_isub (dc kc_X3_valueOf 10 rfl) (by first | omega | (simp [up] <;> omega)) (by first | omega | (simp [up] <;> omega)) <| s_ireturn (dc kc_X3_valueOf 11 rfl) rfl (Nat.zero_le _) (Nat.zero_le _) ?_
  rw [hv]
  exact hQ
end ML2
/-- the weighty pairs as one number -/
def wgt (w : Int) (q : PR) : Bool := decide (bAnd (bShr w q.1) 1 = 1)
def enc (L : List PR) : Int := L.foldl (fun r q => r * 512 + cod q) 1
theorem enc_snoc {L : List PR} {q : PR} : enc (L ++ [q]) = enc L * 512 + cod q := by
  unfold enc
  rw [List.foldl_append]
  rfl
theorem enc_bd : ∀ (k : Nat) (L : List PR), k ≤ 3 → L.length = k → (∀ q ∈ L, okP q) → 1 ≤ enc L ∧ (k = 0 → enc L = 1) ∧ (k = 1 → 512 ≤ enc L ∧ enc L < 1024) ∧ (k = 2 → 262144 ≤ enc L ∧ enc L < 524288) ∧ (k = 3 → 134217728 ≤ enc L ∧ enc L < 268435456) := by
  intro k
  induction k with
  | zero =>
    intro L _ hl _
    have : L = [] := List.length_eq_zero_iff.mp hl
    subst this
    exact ⟨by decide, fun _ => rfl, fun z => absurd z (by decide), fun z => absurd z (by decide), fun z => absurd z (by decide)⟩
  | succ k ih =>
    intro L hk hl hq
    have hne : L ≠ [] := fun z => by rw [z] at hl; cases hl
    have e := (List.dropLast_concat_getLast hne).symm
    have hm := cod_ok (hq (L.getLast hne) (List.getLast_mem hne))
    have i1 := ih L.dropLast (by omega) (by rw [List.length_dropLast]; omega) (fun q h => hq q (List.dropLast_subset L h))
    rw [e, enc_snoc]
    generalize enc L.dropLast = x at *
    generalize cod (L.getLast hne) = y at *
    refine ⟨by omega, fun h => by omega, fun h => ?_, fun h => ?_, fun h => ?_⟩
    · have := i1.2.1 (by omega); omega
    · have := i1.2.2.1 (by omega); omega
    · have := i1.2.2.2.1 (by omega); omega
theorem enc_inj : ∀ (k : Nat) {L L' : List PR}, L.length = k → L'.length = k → (∀ q ∈ L, okP q) → (∀ q ∈ L', okP q) → enc L = enc L' → L = L'
  | 0, L, L', h, h', _, _, _ => by rw [List.length_eq_zero_iff.mp h, List.length_eq_zero_iff.mp h']
  | k + 1, L, L', h, h', hq, hq', e => by
    have hne : L ≠ [] := fun z => by rw [z] at h; cases h
    have hne' : L' ≠ [] := fun z => by rw [z] at h'; cases h'
    have e1 := (List.dropLast_concat_getLast hne).symm
    have e2 := (List.dropLast_concat_getLast hne').symm
    have m1 := cod_ok (hq _ (List.getLast_mem hne))
    have m2 := cod_ok (hq' _ (List.getLast_mem hne'))
    rw [e1, e2, enc_snoc, enc_snoc] at e
    have ec : cod (L.getLast hne) = cod (L'.getLast hne') := by omega
    have ee : enc L.dropLast = enc L'.dropLast := by omega
    have i1 := enc_inj k (by rw [List.length_dropLast]; omega) (by rw [List.length_dropLast]; omega) (fun q z => hq q (List.dropLast_subset L z)) (fun q z => hq' q (List.dropLast_subset L' z)) ee
    rw [e1, e2, i1, cod_inj (hq _ (List.getLast_mem hne)) (hq' _ (List.getLast_mem hne')) ec]
theorem enc_eq {L L' : List PR} (h : L.length ≤ 3) (h' : L'.length ≤ 3) (hq : ∀ q ∈ L, okP q) (hq' : ∀ q ∈ L', okP q) (e : enc L = enc L') : L = L' := by
  have a := enc_bd L.length L h rfl hq
  have b := enc_bd L'.length L' h' rfl hq'
  have : L.length = L'.length := by
    have h1 : L.length = 0 ∨ L.length = 1 ∨ L.length = 2 ∨ L.length = 3 := by omega
    have h2 : L'.length = 0 ∨ L'.length = 1 ∨ L'.length = 2 ∨ L'.length = 3 := by omega
    rcases h1 with h1 | h1 | h1 | h1 <;> rcases h2 with h2 | h2 | h2 | h2 <;> simp [h1, h2] at a b ⊢ <;> omega
  exact enc_inj L.length rfl this.symm hq hq' e
/-- two mends differ in a weighty cell -/
theorem wgt_differ {ρ : Int → Int} {w : Int} {L L' : List PR} (h : Mnd ρ L) (h' : Mnd ρ L') : L.filter (wgt w) = L'.filter (wgt w) ↔ ∀ c, 0 ≤ c → c < 24 → bAnd (bShr w c) 1 = 1 → rowA ρ L (30 + c) = rowA ρ L' (30 + c) := by
  constructor
  · intro e c c0 c1 hw
    have key : ∀ {A B : List PR}, Mnd ρ A → Mnd ρ B → A.filter (wgt w) = B.filter (wgt w) → ∀ v, (c, v) ∈ A → (c, v) ∈ B := fun hA hB e v hv => by
      have : (c, v) ∈ List.filter (wgt w) _ := List.mem_filter.mpr ⟨hv, by simp [wgt, hw]⟩
      rw [e] at this
      exact (List.mem_filter.mp this).1
    by_cases z : ∃ v, (c, v) ∈ L
    · obtain ⟨v, hv⟩ := z
      rw [rowA_mem h.2.1.1 hv, rowA_mem h'.2.1.1 (key h h' e v hv)]
    · rw [rowA_not (fun q hq u => z ⟨q.2, by rw [show c = q.1 by omega]; exact hq⟩), rowA_not (fun q hq u => z ⟨q.2, key h' h e.symm q.2 (by rw [show c = q.1 by omega]; exact hq)⟩)]
  · intro e
    have key : ∀ {A B : List PR}, Mnd ρ A → Mnd ρ B → (∀ c, 0 ≤ c → c < 24 → bAnd (bShr w c) 1 = 1 → rowA ρ A (30 + c) = rowA ρ B (30 + c)) → ∀ q ∈ A, wgt w q = true → q ∈ B := fun {A B} hA hB e q hq hw => by
      have hp := hA.2.1.2 q hq
      have hw' : bAnd (bShr w q.1) 1 = 1 := by simpa [wgt] using hw
      have e1 := e q.1 hp.1 hp.2.1 hw'
      rw [rowA_mem (c := q.1) (v := q.2) hA.2.1.1 hq] at e1
      by_cases z : ∃ r ∈ B, r.1 = q.1
      · obtain ⟨r, hr, er⟩ := z
        have e2 := rowA_mem (ρ := ρ) (c := r.1) (v := r.2) hB.2.1.1 hr
        rw [er, ← e1] at e2
        have : r = q := Prod.ext er e2.symm
        rw [← this]; exact hr
      · rw [rowA_not (fun r hr u => z ⟨r, hr, by omega⟩)] at e1
        exact absurd e1 hp.2.2.2
    refine srt_eq Prod.fst (h.1.filter _) (h'.1.filter _) (fun q => ?_)
    rw [List.mem_filter, List.mem_filter]
    exact ⟨fun z => ⟨key h h' e q z.1 z.2, z.2⟩, fun z => ⟨key h' h (fun c a b u => (e c a b u).symm) q z.1 z.2, z.2⟩⟩
section ML3
variable {d n G : Nat} {mr : MR} {Q : V → MI → Nat → MR → Prop}
theorem u_weightyPairs (hL : Lay G mr) {mi : MI} {k : Nat} {w : Int} {L : List PR} (hk : k < 4) (h0 : mi k 57 0 = (L.length : Int)) (h3 : L.length ≤ 3) (hq : ∀ q ∈ L, okP q) (hQ : Q (vI (enc (L.filter (wgt w)))) mi n mr) : Tx (d+2) mt_X3_weightyPairs [vR (some (k, 57)), vI (key5 L), vI w] mi n mr Q := by
  have hok : okI G 57 k := hk
  refine tx_intro (ls := [vR (some (k, 57)), vI (key5 L), vI w, vX 0, vX 0, vX 0]) om_X3_weightyPairs rfl (Nat.le_of_ble_eq_true rfl) ?_
  have loop : ∀ i : Nat, i ≤ L.length → ∀ x5 : V, Run (d+2) mt_X3_weightyPairs Q (n, mr, 0, 0) mi 5 [vR (some (k, 57)), vI (key5 L), vI w, vI (enc ((L.take i).filter (wgt w))), vI (i : Int), x5] [] := by
    refine nloop ?_
    intro i hi ih x5
    by_cases he : i < L.length
    · have hg : L[i]? = some L[i] := List.getElem?_eq_getElem he
      have hoq := hq L[i] (List.getElem_mem he)
      have hcd := cod_ok hoq
      have ih := ih he
      have htk : L.take (i + 1) = L.take i ++ [L[i]] := by rw [List.take_add_one, hg]; rfl
      rw [htk, List.filter_append] at ih
      have hfl : ((L.take i).filter (wgt w)).length ≤ i := by
        have := List.length_filter_le (wgt w) (L.take i)
        rw [List.length_take] at this; omega
      have hbd := enc_bd _ ((L.take i).filter (wgt w)) (by omega) rfl (fun q z => hq q (List.mem_of_mem_take (List.mem_filter.mp z).1))
      have hlt : enc ((L.take i).filter (wgt w)) < 4194304 := by
        have h1 : ((L.take i).filter (wgt w)).length = 0 ∨ ((L.take i).filter (wgt w)).length = 1 ∨ ((L.take i).filter (wgt w)).length = 2 := by omega
        rcases h1 with h1 | h1 | h1
        · have := hbd.2.1 h1; omega
        · have := hbd.2.2.1 h1; omega
        · have := hbd.2.2.2.1 h1; omega
      have hone := hbd.1
      refine s_iload (dc kc_X3_weightyPairs 4 rfl) rfl <| r_aload_n (dc kc_X3_weightyPairs 5 rfl) rfl <| s_getI (dc kc_X3_weightyPairs 6 rfl) fl_X3_9 <| s_icmp_ge (tgt := 49) (dc kc_X3_weightyPairs 7 rfl) rfl (fun c11 => (?_)) (fun c11 => (r_aload_n (dc kc_X3_weightyPairs 8 rfl) rfl <| s_iload_n (dc kc_X3_weightyPairs 9 rfl) rfl <| s_iload (dc kc_X3_weightyPairs 10 rfl) rfl <| c_v2r (dc kc_X3_weightyPairs 11 rfl) cl_X3_38 rfl (Nat.le_of_ble_eq_true rfl) (Nat.zero_le _) (Nat.zero_le _) ?_))
      · exfalso; omega
      · refine u_pairOf h0 h3 hq hg ?_
        have hcc := cod_cell hoq
        refine t_i5 (dc kc_X3_weightyPairs 12 rfl) (Nat.le_of_ble_eq_true rfl) rfl <| s_iload_n (dc kc_X3_weightyPairs 13 rfl) rfl <| s_iload (dc kc_X3_weightyPairs 14 rfl) rfl <| k_i (dc kc_X3_weightyPairs 15 rfl) rfl <| s_ishr (dc kc_X3_weightyPairs 16 rfl) <| s_ishr (dc kc_X3_weightyPairs 17 rfl) <| k_i (dc kc_X3_weightyPairs 18 rfl) rfl <| s_iand (dc kc_X3_weightyPairs 19 rfl) <| k_i (dc kc_X3_weightyPairs 20 rfl) rfl <| s_icmp_ne (tgt := 43) (dc kc_X3_weightyPairs 21 rfl) rfl (fun c32 => (b_inc4 (dc kc_X3_weightyPairs 28 rfl) rfl (Nat.le_of_ble_eq_true rfl) rfl (by first | omega | (simp [up] <;> omega)) (by first | omega | (simp [up] <;> omega)) <| s_goto (tgt := 5) (dc kc_X3_weightyPairs 29 rfl) rfl <| ?_)) (fun c32 => (s_iload_n (dc kc_X3_weightyPairs 22 rfl) rfl <| k_b (dc kc_X3_weightyPairs 23 rfl) rfl <| s_ishl (dc kc_X3_weightyPairs 24 rfl) <| s_iload (dc kc_X3_weightyPairs 25 rfl) rfl <| s_ior (dc kc_X3_weightyPairs 26 rfl) <| t_i3 (dc kc_X3_weightyPairs 27 rfl) (Nat.le_of_ble_eq_true rfl) rfl <| b_inc4 (dc kc_X3_weightyPairs 28 rfl) rfl (Nat.le_of_ble_eq_true rfl) rfl (by first | omega | (simp [up] <;> omega)) (by first | omega | (simp [up] <;> omega)) <| s_goto (tgt := 5) (dc kc_X3_weightyPairs 29 rfl) rfl <| ?_))
        · rw [hcc] at c32
          rw [show List.filter (wgt w) [L[i]] = [] by simp [wgt, c32], List.append_nil] at ih
          exact ih _
        · rw [hcc] at c32
          rw [show List.filter (wgt w) [L[i]] = [L[i]] by simp [wgt, c32], enc_snoc] at ih
          rw [or9 (by omega) hlt hcd.1 hcd.2]
          exact ih _
    · have e : i = L.length := by omega
      subst e
      rw [List.take_length]
      refine s_iload (dc kc_X3_weightyPairs 4 rfl) rfl <| r_aload_n (dc kc_X3_weightyPairs 5 rfl) rfl <| s_getI (dc kc_X3_weightyPairs 6 rfl) fl_X3_9 <| s_icmp_ge (tgt := 49) (dc kc_X3_weightyPairs 7 rfl) rfl (fun c11 => (s_iload_n (dc kc_X3_weightyPairs 30 rfl) rfl <| s_ireturn (dc kc_X3_weightyPairs 31 rfl) rfl (Nat.zero_le _) (Nat.zero_le _) ?_)) (fun c11 => (?_))
      · exact hQ
      · exfalso; omega
  refine k_i (dc kc_X3_weightyPairs 0 rfl) rfl <| t_i3 (dc kc_X3_weightyPairs 1 rfl) (Nat.le_of_ble_eq_true rfl) rfl <| k_i (dc kc_X3_weightyPairs 2 rfl) rfl <| t_i4 (dc kc_X3_weightyPairs 3 rfl) (Nat.le_of_ble_eq_true rfl) rfl <| ?_
  exact loop 0 (Nat.zero_le _) _
theorem u_differIn (hL : Lay G mr) {mi : MI} {k : Nat} {w P : Int} {ρ : Int → Int} {Y : List (List PR)} (hk : k ≤ 3) (hM : ML mi k k P (Y.map key5)) (hY : ∀ L ∈ Y, Mnd ρ L ∧ L.length = k) (hne : Y ≠ []) (hQ1 : Dif ρ w Y → Q (vI 1) mi n mr) (hQ0 : ¬ Dif ρ w Y → Q (vI 0) mi n mr) : Tx (d+3) mt_X3_differIn [vR (some (k, 57)), vI w] mi n mr Q := by
  have hok : okI G 57 k := by show k < 4; omega
  obtain ⟨m0, m2, m1, ms, m3, me⟩ := hM
  rw [List.length_map] at m2 m3
  have hpos := List.length_pos_iff.mpr hne
  have h0 : Y[0]? = some Y[0] := List.getElem?_eq_getElem hpos
  have row : ∀ (i : Nat) L, i < 500 → Y[i]? = some L → mi k 58 i = key5 L := fun i L a b => me i _ a (by rw [List.getElem?_map, b]; rfl)
  have hY0 := hY Y[0] (List.getElem_mem hpos)
  have r0 : mi k 58 0 = key5 Y[0] := row 0 _ (by decide) h0
  refine tx_intro (ls := [vR (some (k, 57)), vI w, vX 0]) om_X3_differIn rfl (Nat.le_of_ble_eq_true rfl) ?_
  have loop : ∀ i : Nat, i ≤ min Y.length 500 → 1 ≤ i → (∀ (j : Nat) L, 1 ≤ j → j < i → Y[j]? = some L → L.filter (wgt w) = Y[0].filter (wgt w)) → Run (d+3) mt_X3_differIn Q (n, mr, 0, 0) mi 2 [vR (some (k, 57)), vI w, vI (i : Int)] [] := by
    refine nloop ?_
    intro i hi ih hi1 hall
    by_cases he : i < min Y.length 500
    · have hg : Y[i]? = some Y[i] := List.getElem?_eq_getElem (by omega)
      have hYi := hY Y[i] (List.getElem_mem (by omega))
      have ri : mi k 58 i = key5 Y[i] := row i _ (by omega) hg
      have ih := ih he (by omega)
      refine s_iload_n (dc kc_X3_differIn 2 rfl) rfl <| r_aload_n (dc kc_X3_differIn 3 rfl) rfl <| s_getI (dc kc_X3_differIn 4 rfl) fl_X3_21 <| s_icmp_ge (tgt := 43) (dc kc_X3_differIn 5 rfl) rfl (fun c7 => (?_)) (fun c7 => (r_aload_n (dc kc_X3_differIn 6 rfl) rfl <| r_aload_n (dc kc_X3_differIn 7 rfl) rfl <| s_getA (dc kc_X3_differIn 8 rfl) fl_X3_24 (ly_57_4 hL (by assumption)) <| s_iload_n (dc kc_X3_differIn 9 rfl) rfl <| s_iaload (dc kc_X3_differIn 10 rfl) rfl (by first | omega | (simp [up] <;> omega)) (by first | omega | (simp [up] <;> omega)) <| s_iload_n (dc kc_X3_differIn 11 rfl) rfl <| c_v2r (dc kc_X3_differIn 12 rfl) cl_X3_42 rfl (Nat.le_of_ble_eq_true rfl) (Nat.zero_le _) (Nat.zero_le _) ?_))
      · exfalso; omega
      · rw [ri]
        refine u_weightyPairs hL (by omega) (by rw [m0, hYi.2]) (by omega) hYi.1.ok ?_
        refine r_aload_n (dc kc_X3_differIn 13 rfl) rfl <| r_aload_n (dc kc_X3_differIn 14 rfl) rfl <| s_getA (dc kc_X3_differIn 15 rfl) fl_X3_24 (ly_57_4 hL (by assumption)) <| k_i (dc kc_X3_differIn 16 rfl) rfl <| s_iaload (dc kc_X3_differIn 17 rfl) rfl (by first | omega | (simp [up] <;> omega)) (by first | omega | (simp [up] <;> omega)) <| s_iload_n (dc kc_X3_differIn 18 rfl) rfl <| c_v2r (dc kc_X3_differIn 19 rfl) cl_X3_42 rfl (Nat.le_of_ble_eq_true rfl) (Nat.zero_le _) (Nat.zero_le _) ?_
        rw [r0]
        refine u_weightyPairs hL (by omega) (by rw [m0, hY0.2]) (by omega) hY0.1.ok ?_
        refine s_icmp_eq (tgt := 37) (dc kc_X3_differIn 20 rfl) rfl (fun c32 => (b_inc2 (dc kc_X3_differIn 23 rfl) rfl (Nat.le_of_ble_eq_true rfl) rfl (by first | omega | (simp [up] <;> omega)) (by first | omega | (simp [up] <;> omega)) <| s_goto (tgt := 2) (dc kc_X3_differIn 24 rfl) rfl <| ?_)) (fun c32 => (k_i (dc kc_X3_differIn 21 rfl) rfl <| s_zreturn (dc kc_X3_differIn 22 rfl) rfl (by first | exact Or.inl rfl | exact Or.inr rfl | exact bi_01 | assumption) (Nat.zero_le _) (Nat.zero_le _) ?_))
        · have ef : Y[i].filter (wgt w) = Y[0].filter (wgt w) := enc_eq (by have := List.length_filter_le (wgt w) Y[i]; omega) (by have := List.length_filter_le (wgt w) Y[0]; omega) (fun q z => hYi.1.ok q (List.mem_filter.mp z).1) (fun q z => hY0.1.ok q (List.mem_filter.mp z).1) c32
          exact ih (fun j L a b z => by
            by_cases e : j = i
            · subst e; rw [hg] at z; cases z; exact ef
            · exact hall j L a (by omega) z)
        · refine hQ1 ?_
          have : ¬ ∀ c, 0 ≤ c → c < 24 → bAnd (bShr w c) 1 = 1 → rowA ρ Y[i] (30 + c) = rowA ρ Y[0] (30 + c) := fun z => c32 (by rw [(wgt_differ hYi.1 hY0.1).mpr z])
          refine Classical.byContradiction fun hn => this (fun c a b hw => Classical.byContradiction fun hd => hn ⟨c, a, b, hw, i, Y[i], Y[0], hi1, by omega, hg, h0, hd⟩)
    · refine s_iload_n (dc kc_X3_differIn 2 rfl) rfl <| r_aload_n (dc kc_X3_differIn 3 rfl) rfl <| s_getI (dc kc_X3_differIn 4 rfl) fl_X3_21 <| s_icmp_ge (tgt := 43) (dc kc_X3_differIn 5 rfl) rfl (fun c7 => (k_i (dc kc_X3_differIn 25 rfl) rfl <| s_zreturn (dc kc_X3_differIn 26 rfl) rfl (by first | exact Or.inl rfl | exact Or.inr rfl | exact bi_01 | assumption) (Nat.zero_le _) (Nat.zero_le _) ?_)) (fun c7 => (?_))
      · refine hQ0 ?_
        rintro ⟨c, a, b, hw, j, L, L0, hj1, hj5, hj, hj0, hd⟩
        have hjl := (List.getElem?_eq_some_iff.mp hj).1
        rw [h0] at hj0
        cases hj0
        have hL' := hY L (List.mem_of_getElem? hj)
        exact hd ((wgt_differ hL'.1 hY0.1).mp (hall j L hj1 (by omega) hj) c a b hw)
      · exfalso; omega
  refine k_i (dc kc_X3_differIn 0 rfl) rfl <| t_i2 (dc kc_X3_differIn 1 rfl) (Nat.le_of_ble_eq_true rfl) rfl <| ?_
  exact loop 1 (by omega) (by omega) (fun j L a b => by omega)
end ML3
