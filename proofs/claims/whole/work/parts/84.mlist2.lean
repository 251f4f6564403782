/-! the class: the mends of a list, what of them differs -/
theorem Keys5.lst {ρ : Int → Int} {P : Int} {C : Nat} {K : List Int} (h : Keys key5 ρ P C K) : ∃ Y, Lst ρ P C Y ∧ Y.map key5 = K := by
  obtain ⟨Y, e, hY⟩ := list_choose (f := key5) (p := fun L => Mnd ρ L ∧ (L.length : Int) = C ∧ prc ρ L = P) K (fun k hk => by
    obtain ⟨L, z1, z2, z3, z4⟩ := (h.2 k).mp hk
    exact ⟨L, ⟨z1, z2, z3⟩, z4⟩)
  refine ⟨Y, ⟨?_, fun L => ⟨fun z => hY L z, fun z => ?_⟩⟩, e⟩
  · have hp := h.1
    rw [← e, List.pairwise_map] at hp
    rw [List.pairwise_map]
    refine hp.imp_of_mem (fun {a b} ha hb hab => ?_)
    have h1 := hY a ha
    have h2 := hY b hb
    exact (key_lt C (by omega) (by omega) h1.1.ok h2.1.ok).1.mpr hab
  · have : key5 L ∈ Y.map key5 := by rw [e]; exact (h.2 _).mpr ⟨L, z.1, z.2.1, z.2.2, rfl⟩
    obtain ⟨L', w1, w2⟩ := List.mem_map.mp this
    have h1 := hY L' w1
    have : L' = L := key5_inj (k := C) (by omega) (by omega) h1.1.ok z.1.ok w2
    rw [← this]; exact w1
theorem Lst.uniq {ρ : Int → Int} {P C : Int} {Y Y' : List (List PR)} (h : Lst ρ P C Y) (h' : Lst ρ P C Y') : Y = Y' := by
  have a := h.1
  have b := h'.1
  rw [List.pairwise_map] at a b
  exact srt_eq key3 a b (fun L => (h.2 L).trans (h'.2 L).symm)
theorem Least.uniq {ρ : Int → Int} {m P C P' C' : Int} (h : Least ρ m P C) (h' : Least ρ m P' C') : P = P' ∧ C = C' := by
  obtain ⟨⟨L, a1, a2, a3⟩, a4, a5⟩ := h
  obtain ⟨⟨L', b1, b2, b3⟩, b4, b5⟩ := h'
  have x := a5 L' b1 (by omega)
  have y := b5 L a1 (by omega)
  omega
theorem pair_at : ∀ {L : List PR} {j : Nat} {q : PR}, L.length ≤ 3 → (∀ q ∈ L, okP q) → L[j]? = some q → bAnd (bShr (key5 L) (9 * ((L.length : Int) - 1 - j))) 511 = cod q := by
  intro L j q h3 hq hj
  have hb := key5_bd L.length L h3 rfl hq
  have hn : key5 L = (((key5 L).toNat : Nat) : Int) := (Int.toNat_of_nonneg hb.1).symm
  have hlt : (key5 L).toNat < 2147483648 := by omega
  have s0 := sr0 hlt
  have s9 := sr9 hlt
  have s18 := sr18 hlt
  rw [← hn] at s0 s9 s18
  have hjl := (List.getElem?_eq_some_iff.mp hj).1
  match L, h3, j, hjl with
  | [a], _, 0, _ =>
    rw [← (show a = q from Option.some.inj hj)]
    have oa := cod_ok (hq a (by simp))
    rw [show (9 : Int) * ((([a] : List PR).length : Int) - 1 - ((0 : Nat) : Int)) = 0 from rfl, s0, and511 hb.1 (by omega), key5_1]; omega
  | [a, b], _, 0, _ =>
    rw [← (show a = q from Option.some.inj hj)]
    have oa := cod_ok (hq a (by simp))
    have ob := cod_ok (hq b (by simp))
    rw [show (9 : Int) * ((([a, b] : List PR).length : Int) - 1 - ((0 : Nat) : Int)) = 9 from rfl, s9, and511 (by omega) (by omega)]
    have := key5_2 (a := a) (b := b)
    omega
  | [a, b], _, 1, _ =>
    rw [← (show b = q from Option.some.inj hj)]
    have oa := cod_ok (hq a (by simp))
    have ob := cod_ok (hq b (by simp))
    rw [show (9 : Int) * ((([a, b] : List PR).length : Int) - 1 - ((1 : Nat) : Int)) = 0 from rfl, s0, and511 hb.1 (by omega), key5_2]; omega
  | [a, b, c], _, 0, _ =>
    rw [← (show a = q from Option.some.inj hj)]
    have oa := cod_ok (hq a (by simp))
    have ob := cod_ok (hq b (by simp))
    have oc := cod_ok (hq c (by simp))
    rw [show (9 : Int) * ((([a, b, c] : List PR).length : Int) - 1 - ((0 : Nat) : Int)) = 18 from rfl, s18, and511 (by omega) (by omega)]
    have := key5_3 (a := a) (b := b) (c := c)
    omega
  | [a, b, c], _, 1, _ =>
    rw [← (show b = q from Option.some.inj hj)]
    have oa := cod_ok (hq a (by simp))
    have ob := cod_ok (hq b (by simp))
    have oc := cod_ok (hq c (by simp))
    rw [show (9 : Int) * ((([a, b, c] : List PR).length : Int) - 1 - ((1 : Nat) : Int)) = 9 from rfl, s9, and511 (by omega) (by omega)]
    have := key5_3 (a := a) (b := b) (c := c)
    omega
  | [a, b, c], _, 2, _ =>
    rw [← (show c = q from Option.some.inj hj)]
    have oa := cod_ok (hq a (by simp))
    have ob := cod_ok (hq b (by simp))
    have oc := cod_ok (hq c (by simp))
    rw [show (9 : Int) * ((([a, b, c] : List PR).length : Int) - 1 - ((2 : Nat) : Int)) = 0 from rfl, s0, and511 hb.1 (by omega), key5_3]; omega
theorem cod_cell {q : PR} (h : okP q) : bShr (cod q) 4 = q.1 := by
  have ho := cod_ok h
  have := sr4 (a := (cod q).toNat) (by omega)
  rw [Int.toNat_of_nonneg ho.1] at this
  rw [this]
  unfold okP at h
  unfold cod at *
  omega
theorem cod_val {q : PR} (h : okP q) : bAnd (cod q) 15 - 1 = q.2 := by
  have ho := cod_ok h
  rw [iand15 ho.1 (by omega)]
  unfold okP at h
  unfold cod
  omega
theorem cod_inj {q q' : PR} (h : okP q) (h' : okP q') (e : cod q = cod q') : q = q' := by
  unfold okP at h h'
  unfold cod at e
  exact Prod.ext (by omega) (by omega)
section ML2
variable {d n G : Nat} {mr : MR} {Q : V → MI → Nat → MR → Prop}
theorem u_pairOf {mi : MI} {k j : Nat} {L : List PR} {q : PR} (h0 : mi k 57 0 = (L.length : Int)) (h3 : L.length ≤ 3) (hq : ∀ q ∈ L, okP q) (hj : L[j]? = some q) (hQ : Q (vI (cod q)) mi n mr) : Tx (d+1) mt_X3_pairOf [vR (some (k, 57)), vI (key5 L), vI (j : Int)] mi n mr Q := by
  have hjl := (List.getElem?_eq_some_iff.mp hj).1
  refine tx_intro (ls := [vR (some (k, 57)), vI (key5 L), vI (j : Int)]) om_X3_pairOf rfl (Nat.le_of_ble_eq_true rfl) ?_
  refine s_iload_n (dc kc_X3_pairOf 0 rfl) rfl <| k_b (dc kc_X3_pairOf 1 rfl) rfl <| r_aload_n (dc kc_X3_pairOf 2 rfl) rfl <| s_getI (dc kc_X3_pairOf 3 rfl) fl_X3_9 <| k_i (dc kc_X3_pairOf 4 rfl) rfl <| b_isub (dc kc_X3_pairOf 5 rfl) (by first | omega | (simp [up] <;> omega)) (by first | omega | (simp [up] <;> omega)) <| s_iload_n (dc kc_X3_pairOf 6 rfl) rfl <| b_isub (dc kc_X3_pairOf 7 rfl) (by first | omega | (simp [up] <;> omega)) (by first | omega | (simp [up] <;> omega)) <| b_imul (dc kc_X3_pairOf 8 rfl) (by first | omega | (simp [up] <;> omega)) (by first | omega | (simp [up] <;> omega)) <| s_ishr (dc kc_X3_pairOf 9 rfl) <| k_s (dc kc_X3_pairOf 10 rfl) rfl <| s_iand (dc kc_X3_pairOf 11 rfl) <| s_ireturn (dc kc_X3_pairOf 12 rfl) rfl (Nat.zero_le _) (Nat.zero_le _) ?_
  rw [h0, pair_at h3 hq hj]
  exact hQ
theorem u_cellOf (hL : Lay G mr) {mi : MI} {k i j : Nat} {L : List PR} {q : PR} (hk : k < 4) (hi : i < 500) (h58 : mi k 58 i = key5 L) (h0 : mi k 57 0 = (L.length : Int)) (h3 : L.length ≤ 3) (hq : ∀ q ∈ L, okP q) (hj : L[j]? = some q) (hQ : Q (vI q.1) mi n mr) : Tx (d+2) mt_X3_cellOf [vR (some (k, 57)), vI (i : Int), vI (j : Int)] mi n mr Q := by
  have hok : okI G 57 k := hk
  refine tx_intro (ls := [vR (some (k, 57)), vI (i : Int), vI (j : Int)]) om_X3_cellOf rfl (Nat.le_of_ble_eq_true rfl) ?_
  refine r_aload_n (dc kc_X3_cellOf 0 rfl) rfl <| r_aload_n (dc kc_X3_cellOf 1 rfl) rfl <| s_getA (dc kc_X3_cellOf 2 rfl) fl_X3_24 (ly_57_4 hL (by assumption)) <| s_iload_n (dc kc_X3_cellOf 3 rfl) rfl <| s_iaload (dc kc_X3_cellOf 4 rfl) rfl (by first | omega | (simp [up] <;> omega)) (by first | omega | (simp [up] <;> omega)) <| s_iload_n (dc kc_X3_cellOf 5 rfl) rfl <| c_v2r (dc kc_X3_cellOf 6 rfl) cl_X3_38 rfl (Nat.le_of_ble_eq_true rfl) (Nat.zero_le _) (Nat.zero_le _) ?_
  rw [h58]
  refine u_pairOf h0 h3 hq hj ?_
  refine k_i (dc kc_X3_cellOf 7 rfl) rfl <| s_ishr (dc kc_X3_cellOf 8 rfl) <| s_ireturn (dc kc_X3_cellOf 9 rfl) rfl (Nat.zero_le _) (Nat.zero_le _) ?_
  rw [cod_cell (hq q (List.mem_of_getElem? hj))]
  exact hQ
theorem u_valueOf (hL : Lay G mr) {mi : MI} {k i j : Nat} {L : List PR} {q : PR} (hk : k < 4) (hi : i < 500) (h58 : mi k 58 i = key5 L) (h0 : mi k 57 0 = (L.length : Int)) (h3 : L.length ≤ 3) (hq : ∀ q ∈ L, okP q) (hj : L[j]? = some q) (hQ : Q (vI q.2) mi n mr) : Tx (d+2) mt_X3_valueOf [vR (some (k, 57)), vI (i : Int), vI (j : Int)] mi n mr Q := by
  have hok : okI G 57 k := hk
  have hoq := hq q (List.mem_of_getElem? hj)
  have hv := cod_val hoq
  have hoq' := hoq
  unfold okP at hoq'
  refine tx_intro (ls := [vR (some (k, 57)), vI (i : Int), vI (j : Int)]) om_X3_valueOf rfl (Nat.le_of_ble_eq_true rfl) ?_
  refine r_aload_n (dc kc_X3_valueOf 0 rfl) rfl <| r_aload_n (dc kc_X3_valueOf 1 rfl) rfl <| s_getA (dc kc_X3_valueOf 2 rfl) fl_X3_24 (ly_57_4 hL (by assumption)) <| s_iload_n (dc kc_X3_valueOf 3 rfl) rfl <| s_iaload (dc kc_X3_valueOf 4 rfl) rfl (by first | omega | (simp [up] <;> omega)) (by first | omega | (simp [up] <;> omega)) <| s_iload_n (dc kc_X3_valueOf 5 rfl) rfl <| c_v2r (dc kc_X3_valueOf 6 rfl) cl_X3_38 rfl (Nat.le_of_ble_eq_true rfl) (Nat.zero_le _) (Nat.zero_le _) ?_
  rw [h58]
  refine u_pairOf h0 h3 hq hj ?_
  refine k_b (dc kc_X3_valueOf 7 rfl) rfl <| s_iand (dc kc_X3_valueOf 8 rfl) <| k_i (dc kc_X3_valueOf 9 rfl) rfl <| b_isub (dc kc_X3_valueOf 10 rfl) (by first | omega | (simp [up] <;> omega)) (by first | omega | (simp [up] <;> omega)) <| s_ireturn (dc kc_X3_valueOf 11 rfl) rfl (Nat.zero_le _) (Nat.zero_le _) ?_
  rw [hv]
  exact hQ
end ML2
