/-! the reference: least, mends, mend -/
def Dif (ρ : Int → Int) (w : Int) (Y : List (List PR)) : Prop := ∃ c : Int, 0 ≤ c ∧ c < 24 ∧ bAnd (bShr w c) 1 = 1 ∧ ∃ (i : Nat) (L L0 : List PR), 1 ≤ i ∧ i < 500 ∧ Y[i]? = some L ∧ Y[0]? = some L0 ∧ rowA ρ L (30 + c) ≠ rowA ρ L0 (30 + c)
def mnd1 (ρ : Int → Int) (q : PR) : Int → Int := mkR (inc (ud (kw ρ (ρ 0) (-2) q.1 q.2 0) (30 + q.1) q.2) (54 + q.1) 1) q.1 1
def mndR (ρ : Int → Int) (L : List PR) : Int → Int := L.foldl mnd1 ρ
theorem rowA_take {ρ : Int → Int} {L : List PR} {k : Nat} {q : PR} (h : L[k]? = some q) : rowA ρ (L.take (k + 1)) = ud (rowA ρ (L.take k)) (30 + q.1) q.2 := by
  rw [List.take_add_one, h]
  exact rowA_snoc
theorem mnd1_8 {ρ : Int → Int} {q : PR} (h0 : 0 ≤ ρ 8) (h1 : ρ 8 ≤ 200) (hq : okP q) : 0 ≤ mnd1 ρ q 8 ∧ mnd1 ρ q 8 ≤ 200 := by
  unfold okP at hq
  unfold mnd1
  rw [mkR_off (by omega), inc_off (by omega), ud_ne (by omega)]
  exact kw_8 h0 h1
theorem mnd1_0 {ρ : Int → Int} {q : PR} (h0 : 0 ≤ ρ 8) (h1 : ρ 8 ≤ 200) (hq : okP q) : mnd1 ρ q 0 = ρ 0 := by
  unfold okP at hq
  unfold mnd1
  rw [mkR_off (by omega), inc_off (by omega), ud_ne (by omega)]
  exact kw_off h0 h1 (by omega)
theorem mndR_8 {ρ : Int → Int} : ∀ {L : List PR}, 0 ≤ ρ 8 → ρ 8 ≤ 200 → (∀ q ∈ L, okP q) → 0 ≤ mndR ρ L 8 ∧ mndR ρ L 8 ≤ 200 := by
  intro L
  induction L generalizing ρ with
  | nil => intro h0 h1 _; exact ⟨h0, h1⟩
  | cons q L ih =>
    intro h0 h1 hq
    have h := mnd1_8 h0 h1 (hq q List.mem_cons_self)
    exact ih (ρ := mnd1 ρ q) h.1 h.2 (fun r hr => hq r (List.mem_cons_of_mem _ hr))
section LK6
variable {d n G : Nat} {mr : MR} {Q : V → MI → Nat → MR → Prop}
theorem t_canMend {mi : MI} (hQ : Q (vI (bi (mi 0 80 34 ≠ -1))) mi n mr) : Tx (d+1) mt_X12_canMend [vR (some (0, 80))] mi n mr Q := by
  refine tx_intro (ls := [vR (some (0, 80))]) om_X12_canMend rfl (Nat.le_of_ble_eq_true rfl) ?_
  refine r_aload_n (dc kc_X12_canMend 0 rfl) rfl <| s_getI (dc kc_X12_canMend 1 rfl) fl_X12_458 <| k_i (dc kc_X12_canMend 2 rfl) rfl <| s_icmp_eq (tgt := 12) (dc kc_X12_canMend 3 rfl) rfl (fun c5 => (k_i (dc kc_X12_canMend 6 rfl) rfl <| s_zreturn (dc kc_X12_canMend 7 rfl) rfl (by first | exact Or.inl rfl | exact Or.inr rfl | exact bi_01 | assumption) (Nat.zero_le _) (Nat.zero_le _) ?_)) (fun c5 => (k_i (dc kc_X12_canMend 4 rfl) rfl <| s_goto (tgt := 13) (dc kc_X12_canMend 5 rfl) rfl <| s_zreturn (dc kc_X12_canMend 7 rfl) rfl (by first | exact Or.inl rfl | exact Or.inr rfl | exact bi_01 | assumption) (Nat.zero_le _) (Nat.zero_le _) ?_))
  all_goals (first | (rw [bi_t (by omega)] at hQ; exact hQ) | (rw [bi_f (by omega)] at hQ; exact hQ))
theorem t_many {mi : MI} (hQ : Q (vI (min (mi 0 80 36) 500)) mi n mr) : Tx (d+1) mt_X12_many [vR (some (0, 80))] mi n mr Q := by
  refine tx_intro (ls := [vR (some (0, 80))]) om_X12_many rfl (Nat.le_of_ble_eq_true rfl) ?_
  refine r_aload_n (dc kc_X12_many 0 rfl) rfl <| s_getI (dc kc_X12_many 1 rfl) fl_X12_455 <| k_s (dc kc_X12_many 2 rfl) rfl <| s_icmp_le (tgt := 16) (dc kc_X12_many 3 rfl) rfl (fun c7 => (r_aload_n (dc kc_X12_many 6 rfl) rfl <| s_getI (dc kc_X12_many 7 rfl) fl_X12_455 <| s_ireturn (dc kc_X12_many 8 rfl) rfl (Nat.zero_le _) (Nat.zero_le _) ?_)) (fun c7 => (k_s (dc kc_X12_many 4 rfl) rfl <| s_goto (tgt := 20) (dc kc_X12_many 5 rfl) rfl <| s_ireturn (dc kc_X12_many 8 rfl) rfl (Nat.zero_le _) (Nat.zero_le _) ?_))
  · rw [show min (mi 0 80 36) 500 = mi 0 80 36 by omega] at hQ; exact hQ
  · rw [show min (mi 0 80 36) 500 = 500 by omega] at hQ; exact hQ
theorem t_partOf {mi : MI} {key k : Int} {L : List PR} {q : PR} (hl : mi 0 80 35 = L.length) (h3 : L.length ≤ 3) (hok : ∀ q ∈ L, okP q) (hkey : key = key3 L) (hk0 : 0 ≤ k) (hq : L[k.toNat]? = some q) (hQ : Q (vI (11 * q.1 + q.2 + 2)) mi n mr) : Tx (d+1) mt_X12_partOf [vR (some (0, 80)), vL key, vI k] mi n mr Q := by
  refine tx_intro (ls := [vR (some (0, 80)), vL key, vX 0, vI k, vX 0, vX 0, vX 0]) om_X12_partOf rfl (Nat.le_of_ble_eq_true rfl) ?_
  have hkl : k.toNat < L.length := (List.getElem?_eq_some_iff.mp hq).1
  have hoq := hok q (List.mem_of_getElem? hq)
  have loop : ∀ t : Nat, k + t < L.length → Run (d+1) mt_X12_partOf Q (n, mr, 0, 0) mi 11 [vR (some (0, 80)), vL key, vX 0, vI k, vL (key3 (L.take (k.toNat + t + 1))), vX 0, vI (k + t)] [] := by
    intro t
    induction t with
    | zero =>
      intro ht
      rw [List.take_add_one, Nat.add_zero, hq]
      show Run _ _ _ _ _ _ [_, _, _, _, vL (key3 (L.take k.toNat ++ [q])), _, _] _
      rw [key3_snoc, show k + ((0 : Nat) : Int) = k by omega]
      have hb := key3_bd k.toNat (L.take k.toNat) (by omega) (by rw [List.length_take]; omega) (fun r hr => hok r (List.mem_of_mem_take hr))
      have hb2 := hb.2.1 (by omega)
      unfold okP at hoq
      refine s_iload (dc kc_X12_partOf 7 rfl) rfl <| s_iload_n (dc kc_X12_partOf 8 rfl) rfl <| s_icmp_le (tgt := 31) (dc kc_X12_partOf 9 rfl) rfl (fun c14 => (s_lload (dc kc_X12_partOf 16 rfl) rfl <| k_j (dc kc_X12_partOf 17 rfl) kj_X12_449 rfl (a := 300) (by decide) <| b_lrem (dc kc_X12_partOf 18 rfl) (by first | omega | (simp [up] <;> omega)) (by first | omega | (simp [up] <;> omega)) <| b_l2i (dc kc_X12_partOf 19 rfl) (by first | omega | (simp [up] <;> omega)) (by first | omega | (simp [up] <;> omega)) <| s_ireturn (dc kc_X12_partOf 20 rfl) rfl (Nat.zero_le _) (Nat.zero_le _) ?_)) (fun c14 => (?_))
      · rw [show (key3 (List.take k.toNat L) * 300 + (11 * q.1 + q.2 + 2)) % 300 = 11 * q.1 + q.2 + 2 by omega]
        exact hQ
      · exfalso; omega
    | succ t ih =>
      intro ht
      have ih := ih (by omega)
      have hg : L[k.toNat + (t + 1)]? = some L[k.toNat + (t + 1)] := List.getElem?_eq_getElem (by omega)
      have ho := hok _ (List.mem_of_getElem? hg)
      rw [List.take_add_one, hg]
      show Run _ _ _ _ _ _ [_, _, _, _, vL (key3 (L.take (k.toNat + (t + 1)) ++ [_])), _, _] _
      rw [key3_snoc]
      generalize L[k.toNat + (t + 1)] = r at *
      have hb := key3_bd (k.toNat + (t + 1)) (L.take (k.toNat + (t + 1))) (by omega) (by rw [List.length_take]; omega) (fun r hr => hok r (List.mem_of_mem_take hr))
      have hb2 := hb.2.1 (by omega)
      rw [show k.toNat + t + 1 = k.toNat + (t + 1) by omega] at ih
      unfold okP at ho
      refine s_iload (dc kc_X12_partOf 7 rfl) rfl <| s_iload_n (dc kc_X12_partOf 8 rfl) rfl <| s_icmp_le (tgt := 31) (dc kc_X12_partOf 9 rfl) rfl (fun c14 => (?_)) (fun c14 => (s_lload (dc kc_X12_partOf 10 rfl) rfl <| k_j (dc kc_X12_partOf 11 rfl) kj_X12_449 rfl (a := 300) (by decide) <| b_ldiv (dc kc_X12_partOf 12 rfl) (by first | omega | (simp [up] <;> omega)) (by first | omega | (simp [up] <;> omega)) <| t_l4 (dc kc_X12_partOf 13 rfl) (Nat.le_of_ble_eq_true rfl) rfl <| b_inc6 (dc kc_X12_partOf 14 rfl) rfl (Nat.le_of_ble_eq_true rfl) rfl (by first | omega | (simp [up] <;> omega)) (by first | omega | (simp [up] <;> omega)) <| s_goto (tgt := 11) (dc kc_X12_partOf 15 rfl) rfl <| ?_))
      · exfalso; omega
      · rw [show (key3 (List.take (k.toNat + (t + 1)) L) * 300 + (11 * r.1 + r.2 + 2)) / 300 = key3 (List.take (k.toNat + (t + 1)) L) by omega, show k + ((t + 1 : Nat) : Int) + -1 = k + t by omega]
        exact ih
  refine s_lload_n (dc kc_X12_partOf 0 rfl) rfl <| t_l4 (dc kc_X12_partOf 1 rfl) (Nat.le_of_ble_eq_true rfl) rfl <| r_aload_n (dc kc_X12_partOf 2 rfl) rfl <| s_getI (dc kc_X12_partOf 3 rfl) fl_X12_461 <| k_i (dc kc_X12_partOf 4 rfl) rfl <| b_isub (dc kc_X12_partOf 5 rfl) (by first | omega | (simp [up] <;> omega)) (by first | omega | (simp [up] <;> omega)) <| t_i6 (dc kc_X12_partOf 6 rfl) (Nat.le_of_ble_eq_true rfl) rfl <| ?_
  have := loop (L.length - 1 - k.toNat) (by omega)
  rw [show k.toNat + (L.length - 1 - k.toNat) + 1 = L.length by omega, List.take_length, ← hkey, show k + ((L.length - 1 - k.toNat : Nat) : Int) = mi 0 80 35 - 1 by omega] at this
  exact this
theorem t_cellThen (hL : Lay G mr) {mi : MI} {i c : Int} {L : List PR} (hi0 : 0 ≤ i) (hi1 : i < 501) (hc : 0 ≤ c ∧ c < 24) (hl : mi 0 80 35 = L.length) (h3 : L.length ≤ 3) (hok : ∀ q ∈ L, okP q) (hkey : mi 0 93 i = key3 L) (hQ : Q (vI (rowA (mi 0 81) L (30 + c))) mi n mr) : Tx (d+2) mt_X12_cellThen [vR (some (0, 80)), vI i, vI c] mi n mr Q := by
  refine tx_intro (ls := [vR (some (0, 80)), vI i, vI c, vX 0, vX 0, vX 0]) om_X12_cellThen rfl (Nat.le_of_ble_eq_true rfl) ?_
  have loop : ∀ k : Nat, k ≤ L.length → ∀ x5 : V, Run (d+2) mt_X12_cellThen Q (n, mr, 0, 0) mi 13 [vR (some (0, 80)), vI i, vI c, vI (rowA (mi 0 81) (L.take k) (30 + c)), vI (k : Int), x5] [] := by
    refine nloop ?_
    intro k hk ih x5
    by_cases he : k < L.length
    · have hg : L[k]? = some L[k] := List.getElem?_eq_getElem he
      have ho := hok _ (List.mem_of_getElem? hg)
      have ih := ih he
      rw [rowA_take hg] at ih
      generalize L[k] = q at *
      unfold okP at ho
      have key : ∀ v x5, v = ud (rowA (mi 0 81) (L.take k)) (30 + q.1) q.2 (30 + c) → Run (d+2) mt_X12_cellThen Q (n, mr, 0, 0) mi 60 [vR (some (0, 80)), vI i, vI c, vI (rowA (mi 0 81) (L.take k) (30 + c)), vI (k : Int), x5] [vI v] := by
        intro v x5 ev
        subst ev
        refine t_i3 (dc kc_X12_cellThen_0 37 rfl) (Nat.le_of_ble_eq_true rfl) rfl <| b_inc4 (dc kc_X12_cellThen_0 38 rfl) rfl (Nat.le_of_ble_eq_true rfl) rfl (by first | omega | (simp [up] <;> omega)) (by first | omega | (simp [up] <;> omega)) <| s_goto (tgt := 13) (dc kc_X12_cellThen_0 39 rfl) rfl <| ?_
        exact ih _
      refine s_iload (dc kc_X12_cellThen_0 9 rfl) rfl <| r_aload_n (dc kc_X12_cellThen_0 10 rfl) rfl <| s_getI (dc kc_X12_cellThen_0 11 rfl) fl_X12_461 <| s_icmp_ge (tgt := 67) (dc kc_X12_cellThen_0 12 rfl) rfl (fun c19 => (?_)) (fun c19 => (r_aload_n (dc kc_X12_cellThen_0 13 rfl) rfl <| r_aload_n (dc kc_X12_cellThen_0 14 rfl) rfl <| s_getA (dc kc_X12_cellThen_0 15 rfl) fl_X12_51 (ly_80_37 hL) <| s_iload_n (dc kc_X12_cellThen_0 16 rfl) rfl <| s_laload (dc kc_X12_cellThen_0 17 rfl) rfl (by first | omega | (simp [up] <;> omega)) (by first | omega | (simp [up] <;> omega)) <| s_iload (dc kc_X12_cellThen_0 18 rfl) rfl <| c_v2r (dc kc_X12_cellThen_0 19 rfl) cl_X12_490 rfl (Nat.le_of_ble_eq_true rfl) (Nat.zero_le _) (Nat.zero_le _) ?_))
      · exfalso; omega
      · refine t_partOf (L := L) (q := q) hl h3 hok hkey (by omega) (by rw [Int.toNat_natCast]; exact hg) ?_
        refine t_i5 (dc kc_X12_cellThen_0 20 rfl) (Nat.le_of_ble_eq_true rfl) rfl <| s_iload (dc kc_X12_cellThen_0 21 rfl) rfl <| k_i (dc kc_X12_cellThen_0 22 rfl) rfl <| b_isub (dc kc_X12_cellThen_0 23 rfl) (by first | omega | (simp [up] <;> omega)) (by first | omega | (simp [up] <;> omega)) <| k_b (dc kc_X12_cellThen_0 24 rfl) rfl <| b_idiv (dc kc_X12_cellThen_0 25 rfl) (by first | omega | (simp [up] <;> omega)) (by first | omega | (simp [up] <;> omega)) <| s_iload_n (dc kc_X12_cellThen_0 26 rfl) rfl <| s_icmp_ne (tgt := 59) (dc kc_X12_cellThen_0 27 rfl) rfl (fun c44 => (s_iload_n (dc kc_X12_cellThen_0 36 rfl) rfl <| ?_)) (fun c44 => (s_iload (dc kc_X12_cellThen_0 28 rfl) rfl <| k_i (dc kc_X12_cellThen_0 29 rfl) rfl <| b_isub (dc kc_X12_cellThen_0 30 rfl) (by first | omega | (simp [up] <;> omega)) (by first | omega | (simp [up] <;> omega)) <| k_b (dc kc_X12_cellThen_0 31 rfl) rfl <| b_irem (dc kc_X12_cellThen_0 32 rfl) (by first | omega | (simp [up] <;> omega)) (by first | omega | (simp [up] <;> omega)) <| k_i (dc kc_X12_cellThen_0 33 rfl) rfl <| b_isub (dc kc_X12_cellThen_0 34 rfl) (by first | omega | (simp [up] <;> omega)) (by first | omega | (simp [up] <;> omega)) <| s_goto (tgt := 60) (dc kc_X12_cellThen_0 35 rfl) rfl <| ?_))
        · rw [show (11 * q.1 + q.2 + 2 - 1) / 11 = q.1 by omega] at c44
          exact key _ _ (by rw [ud_ne (by omega)])
        · rw [show (11 * q.1 + q.2 + 2 - 1) / 11 = q.1 by omega] at c44
          exact key _ _ (by rw [c44, ud_at]; omega)
    · refine s_iload (dc kc_X12_cellThen_0 9 rfl) rfl <| r_aload_n (dc kc_X12_cellThen_0 10 rfl) rfl <| s_getI (dc kc_X12_cellThen_0 11 rfl) fl_X12_461 <| s_icmp_ge (tgt := 67) (dc kc_X12_cellThen_0 12 rfl) rfl (fun c19 => (s_iload_n (dc kc_X12_cellThen_1 0 rfl) rfl <| s_ireturn (dc kc_X12_cellThen_1 1 rfl) rfl (Nat.zero_le _) (Nat.zero_le _) ?_)) (fun c19 => (?_))
      · rw [show k = L.length by omega, List.take_length]; exact hQ
      · exfalso; omega
  refine r_aload_n (dc kc_X12_cellThen_0 0 rfl) rfl <| s_getA (dc kc_X12_cellThen_0 1 rfl) fl_X12_7 (ly_80_2 hL) <| k_b (dc kc_X12_cellThen_0 2 rfl) rfl <| s_iload_n (dc kc_X12_cellThen_0 3 rfl) rfl <| b_iadd (dc kc_X12_cellThen_0 4 rfl) (by first | omega | (simp [up] <;> omega)) (by first | omega | (simp [up] <;> omega)) <| s_iaload (dc kc_X12_cellThen_0 5 rfl) rfl (by first | omega | (simp [up] <;> omega)) (by first | omega | (simp [up] <;> omega)) <| t_i3 (dc kc_X12_cellThen_0 6 rfl) (Nat.le_of_ble_eq_true rfl) rfl <| k_i (dc kc_X12_cellThen_0 7 rfl) rfl <| t_i4 (dc kc_X12_cellThen_0 8 rfl) (Nat.le_of_ble_eq_true rfl) rfl <| ?_
  exact loop 0 (Nat.zero_le _) _
/-- what the lists say, as the fields have it -/
def LsM (mi : MI) (Y : List (List PR)) : Prop := mi 0 80 36 = min (Y.length : Int) 501 ∧ (∀ (i : Nat) L, i < 501 → Y[i]? = some L → mi 0 93 i = key3 L) ∧ (∀ L ∈ Y, (L.length : Int) = mi 0 80 35 ∧ L.length ≤ 3 ∧ ∀ q ∈ L, okP q) ∧ Y ≠ []
theorem t_doDiffer (hL : Lay G mr) {mi : MI} {Y : List (List PR)} (hY : LsM mi Y) (hQ1 : Dif (mi 0 81) (mi 0 81 15) Y → Q (vI 1) mi n mr) (hQ0 : ¬ Dif (mi 0 81) (mi 0 81 15) Y → Q (vI 0) mi n mr) : Tx (d+3) mt_X12_doDiffer [vR (some (0, 80))] mi n mr Q := by
  refine tx_intro (ls := [vR (some (0, 80)), vX 0, vX 0, vX 0]) om_X12_doDiffer rfl (Nat.le_of_ble_eq_true rfl) ?_
  obtain ⟨hf, hent, hall, hne⟩ := hY
  generalize hρ : mi 0 81 = ρ at *
  have e15 : mi 0 81 15 = ρ 15 := by rw [hρ]
  have hY0 : 0 < Y.length := List.length_pos_iff.mpr hne
  have hg0 : Y[0]? = some Y[0] := List.getElem?_eq_getElem hY0
  -- differ up to here
  have outer : ∀ c : Nat, c ≤ 24 → ∀ (b : Int) (x3 : V), ((b = 1 ∧ Dif ρ (ρ 15) Y) ∨ (b = 0 ∧ ¬ ∃ c' : Int, 0 ≤ c' ∧ c' < (c : Int) ∧ bAnd (bShr (ρ 15) c') 1 = 1 ∧ ∃ (i : Nat) (L L0 : List PR), 1 ≤ i ∧ i < 500 ∧ Y[i]? = some L ∧ Y[0]? = some L0 ∧ rowA ρ L (30 + c') ≠ rowA ρ L0 (30 + c'))) → Run (d+3) mt_X12_doDiffer Q (n, mr, 0, 0) mi 4 [vR (some (0, 80)), vI b, vI (c : Int), x3] [] := by
    refine nloop ?_
    intro c hc ih b x3 hb
    by_cases he : c < 24
    · have nxt : ∀ (b : Int) (x3 : V), ((b = 1 ∧ Dif ρ (ρ 15) Y) ∨ (b = 0 ∧ (¬ ∃ c' : Int, 0 ≤ c' ∧ c' < (c : Int) ∧ bAnd (bShr (ρ 15) c') 1 = 1 ∧ ∃ (i : Nat) (L L0 : List PR), 1 ≤ i ∧ i < 500 ∧ Y[i]? = some L ∧ Y[0]? = some L0 ∧ rowA ρ L (30 + c') ≠ rowA ρ L0 (30 + c')) ∧ ¬ (bAnd (bShr (ρ 15) c) 1 = 1 ∧ ∃ (i : Nat) (L L0 : List PR), 1 ≤ i ∧ i < 500 ∧ Y[i]? = some L ∧ Y[0]? = some L0 ∧ rowA ρ L (30 + c) ≠ rowA ρ L0 (30 + c)))) → Run (d+3) mt_X12_doDiffer Q (n, mr, 0, 0) mi 66 [vR (some (0, 80)), vI b, vI (c : Int), x3] [] := by
        intro b x3 hb
        have := ih he b x3 (by
          rcases hb with h | ⟨h1, h2, h3⟩
          · exact Or.inl h
          · refine Or.inr ⟨h1, ?_⟩
            rintro ⟨c', a, b', r⟩
            by_cases e : c' = c
            · rw [e] at r; exact h3 r
            · exact h2 ⟨c', a, by omega, r⟩)
        refine b_inc2 (dc kc_X12_doDiffer_1 0 rfl) rfl (Nat.le_of_ble_eq_true rfl) rfl (by first | omega | (simp [up] <;> omega)) (by first | omega | (simp [up] <;> omega)) <| s_goto (tgt := 4) (dc kc_X12_doDiffer_1 1 rfl) rfl <| ?_
        exact this
      have inner : ∀ i : Nat, 1 ≤ i → i ≤ min Y.length 500 → ∀ (b : Int), ((b = 1 ∧ Dif ρ (ρ 15) Y) ∨ (b = 0 ∧ (¬ ∃ c' : Int, 0 ≤ c' ∧ c' < (c : Int) ∧ bAnd (bShr (ρ 15) c') 1 = 1 ∧ ∃ (i : Nat) (L L0 : List PR), 1 ≤ i ∧ i < 500 ∧ Y[i]? = some L ∧ Y[0]? = some L0 ∧ rowA ρ L (30 + c') ≠ rowA ρ L0 (30 + c')) ∧ ∀ (i' : Nat) (L : List PR), 1 ≤ i' → i' < i → Y[i']? = some L → rowA ρ L (30 + c) = rowA ρ Y[0] (30 + c))) → Run (d+3) mt_X12_doDiffer Q (n, mr, 0, 0) mi 12 [vR (some (0, 80)), vI b, vI (c : Int), vI (i : Int)] [] := by
        have key : ∀ (r i : Nat), i + r = min Y.length 500 → 1 ≤ i → ∀ (b : Int), ((b = 1 ∧ Dif ρ (ρ 15) Y) ∨ (b = 0 ∧ (¬ ∃ c' : Int, 0 ≤ c' ∧ c' < (c : Int) ∧ bAnd (bShr (ρ 15) c') 1 = 1 ∧ ∃ (i : Nat) (L L0 : List PR), 1 ≤ i ∧ i < 500 ∧ Y[i]? = some L ∧ Y[0]? = some L0 ∧ rowA ρ L (30 + c') ≠ rowA ρ L0 (30 + c')) ∧ ∀ (i' : Nat) (L : List PR), 1 ≤ i' → i' < i → Y[i']? = some L → rowA ρ L (30 + c) = rowA ρ Y[0] (30 + c))) → Run (d+3) mt_X12_doDiffer Q (n, mr, 0, 0) mi 12 [vR (some (0, 80)), vI b, vI (c : Int), vI (i : Int)] [] := by
          intro r
          induction r with
          | zero =>
            intro i hi h1 b hb
            refine s_iload_n (dc kc_X12_doDiffer_0 9 rfl) rfl <| r_aload_n (dc kc_X12_doDiffer_0 10 rfl) rfl <| c_v0r (dc kc_X12_doDiffer_0 11 rfl) cl_X12_494 rfl (Nat.le_of_ble_eq_true rfl) (Nat.zero_le _) (Nat.zero_le _) <| t_many <| s_icmp_ge (tgt := 66) (dc kc_X12_doDiffer_0 12 rfl) rfl (fun c17 => (?_)) (fun c17 => (?_))
            · refine nxt b _ ?_
              rcases hb with h | ⟨h1, h2, h3⟩
              · exact Or.inl h
              · refine Or.inr ⟨h1, h2, ?_⟩
                rintro ⟨_, i', L, L0, a, b', c', d', e'⟩
                rw [hg0] at d'; cases d'
                have : i' < Y.length := (List.getElem?_eq_some_iff.mp c').1
                exact e' (h3 i' L a (by omega) c')
            · exfalso; omega
          | succ r ih2 =>
            intro i hi h1 b hb
            have hiY : i < Y.length := by omega
            have hgi : Y[i]? = some Y[i] := List.getElem?_eq_getElem hiY
            have ih2 := ih2 (i + 1) (by omega) (by omega)
            have hai := hall _ (List.getElem_mem hiY)
            have ha0 := hall _ (List.getElem_mem hY0)
            have kk : ∀ b', ((b' = 1 ∧ Dif ρ (ρ 15) Y) ∨ (b' = 0 ∧ (¬ ∃ c' : Int, 0 ≤ c' ∧ c' < (c : Int) ∧ bAnd (bShr (ρ 15) c') 1 = 1 ∧ ∃ (i : Nat) (L L0 : List PR), 1 ≤ i ∧ i < 500 ∧ Y[i]? = some L ∧ Y[0]? = some L0 ∧ rowA ρ L (30 + c') ≠ rowA ρ L0 (30 + c')) ∧ ∀ (i' : Nat) (L : List PR), 1 ≤ i' → i' < i + 1 → Y[i']? = some L → rowA ρ L (30 + c) = rowA ρ Y[0] (30 + c))) → Run (d+3) mt_X12_doDiffer Q (n, mr, 0, 0) mi 59 [vR (some (0, 80)), vI b, vI (c : Int), vI (i : Int)] [vI b'] := by
              intro b' hb'
              refine t_i1 (dc kc_X12_doDiffer_0 37 rfl) (Nat.le_of_ble_eq_true rfl) rfl <| b_inc3 (dc kc_X12_doDiffer_0 38 rfl) rfl (Nat.le_of_ble_eq_true rfl) rfl (by first | omega | (simp [up] <;> omega)) (by first | omega | (simp [up] <;> omega)) <| s_goto (tgt := 12) (dc kc_X12_doDiffer_0 39 rfl) rfl <| ?_
              exact ih2 b' hb'
            refine s_iload_n (dc kc_X12_doDiffer_0 9 rfl) rfl <| r_aload_n (dc kc_X12_doDiffer_0 10 rfl) rfl <| c_v0r (dc kc_X12_doDiffer_0 11 rfl) cl_X12_494 rfl (Nat.le_of_ble_eq_true rfl) (Nat.zero_le _) (Nat.zero_le _) <| t_many <| s_icmp_ge (tgt := 66) (dc kc_X12_doDiffer_0 12 rfl) rfl (fun c17 => (?_)) (fun c17 => (r_aload_n (dc kc_X12_doDiffer_0 13 rfl) rfl <| s_getA (dc kc_X12_doDiffer_0 14 rfl) fl_X12_7 (ly_80_2 hL) <| k_b (dc kc_X12_doDiffer_0 15 rfl) rfl <| s_iaload (dc kc_X12_doDiffer_0 16 rfl) rfl (by first | omega | (simp [up] <;> omega)) (by first | omega | (simp [up] <;> omega)) <| s_iload_n (dc kc_X12_doDiffer_0 17 rfl) rfl <| s_ishr (dc kc_X12_doDiffer_0 18 rfl) <| k_i (dc kc_X12_doDiffer_0 19 rfl) rfl <| s_iand (dc kc_X12_doDiffer_0 20 rfl) <| k_i (dc kc_X12_doDiffer_0 21 rfl) rfl <| s_icmp_ne (tgt := 66) (dc kc_X12_doDiffer_0 22 rfl) rfl (fun c32 => (?_)) (fun c32 => (?_))))
            · exfalso; omega
            · rw [e15] at c32
              refine nxt b _ ?_
              rcases hb with h | ⟨h1, h2, h3⟩
              · exact Or.inl h
              · exact Or.inr ⟨h1, h2, fun z => c32 z.1⟩
            · rw [e15] at c32
              refine s_iload_n (dc kc_X12_doDiffer_0 23 rfl) rfl <| s_if_ne (tgt := 54) (dc kc_X12_doDiffer_0 24 rfl) rfl (fun c36 => (k_i (dc kc_X12_doDiffer_0 34 rfl) rfl <| s_goto (tgt := 59) (dc kc_X12_doDiffer_0 35 rfl) rfl <| ?_)) (fun c36 => (r_aload_n (dc kc_X12_doDiffer_0 25 rfl) rfl <| s_iload_n (dc kc_X12_doDiffer_0 26 rfl) rfl <| s_iload_n (dc kc_X12_doDiffer_0 27 rfl) rfl <| c_v2r (dc kc_X12_doDiffer_0 28 rfl) cl_X12_497 rfl (Nat.le_of_ble_eq_true rfl) (Nat.zero_le _) (Nat.zero_le _) ?_))
              · rcases hb with ⟨h1, h⟩ | ⟨h1, _⟩
                · exact kk 1 (Or.inl ⟨rfl, h⟩)
                · exact absurd h1 c36
              · refine t_cellThen hL (L := Y[i]) (by omega) (by omega) (by omega) hai.1.symm hai.2.1 hai.2.2 (hent i _ (by omega) hgi) ?_
                rw [hρ]
                refine r_aload_n (dc kc_X12_doDiffer_0 29 rfl) rfl <| k_i (dc kc_X12_doDiffer_0 30 rfl) rfl <| s_iload_n (dc kc_X12_doDiffer_0 31 rfl) rfl <| c_v2r (dc kc_X12_doDiffer_0 32 rfl) cl_X12_497 rfl (Nat.le_of_ble_eq_true rfl) (Nat.zero_le _) (Nat.zero_le _) ?_
                refine t_cellThen hL (L := Y[0]) (by omega) (by omega) (by omega) ha0.1.symm ha0.2.1 ha0.2.2 (by have := hent 0 _ (by omega) hg0; exact this) ?_
                rw [hρ]
                refine s_icmp_eq (tgt := 58) (dc kc_X12_doDiffer_0 33 rfl) rfl (fun c51 => (k_i (dc kc_X12_doDiffer_0 36 rfl) rfl <| ?_)) (fun c51 => (k_i (dc kc_X12_doDiffer_0 34 rfl) rfl <| s_goto (tgt := 59) (dc kc_X12_doDiffer_0 35 rfl) rfl <| ?_))
                · rcases hb with ⟨h1, _⟩ | ⟨h1, h2, h3⟩
                  · omega
                  · refine kk 0 (Or.inr ⟨rfl, h2, fun i' L a b' e => ?_⟩)
                    by_cases ei : i' = i
                    · subst ei; rw [hgi] at e; cases e; exact c51
                    · exact h3 i' L a (by omega) e
                · refine kk 1 (Or.inl ⟨rfl, c, by omega, by omega, c32, i, Y[i], Y[0], h1, by omega, hgi, hg0, c51⟩)
        intro i h1 h2 b hb
        exact key (min Y.length 500 - i) i (by omega) h1 b hb
      refine s_iload_n (dc kc_X12_doDiffer_0 4 rfl) rfl <| k_b (dc kc_X12_doDiffer_0 5 rfl) rfl <| s_icmp_ge (tgt := 72) (dc kc_X12_doDiffer_0 6 rfl) rfl (fun c7 => (?_)) (fun c7 => (k_i (dc kc_X12_doDiffer_0 7 rfl) rfl <| t_i3 (dc kc_X12_doDiffer_0 8 rfl) (Nat.le_of_ble_eq_true rfl) rfl <| ?_))
      · exfalso; omega
      · refine inner 1 (by omega) (by omega) b ?_
        rcases hb with h | ⟨h1, h2⟩
        · exact Or.inl h
        · exact Or.inr ⟨h1, h2, fun i' L a b' => by omega⟩
    · have : c = 24 := by omega
      subst this
      have hb01 : b = 0 ∨ b = 1 := by
        rcases hb with ⟨h1, h⟩ | ⟨h1, h⟩
        · exact Or.inr h1
        · exact Or.inl h1
      refine s_iload_n (dc kc_X12_doDiffer_0 4 rfl) rfl <| k_b (dc kc_X12_doDiffer_0 5 rfl) rfl <| s_icmp_ge (tgt := 72) (dc kc_X12_doDiffer_0 6 rfl) rfl (fun c7 => (s_iload_n (dc kc_X12_doDiffer_1 2 rfl) rfl <| s_zreturn (dc kc_X12_doDiffer_1 3 rfl) rfl (by first | exact Or.inl rfl | exact Or.inr rfl | exact bi_01 | assumption) (Nat.zero_le _) (Nat.zero_le _) ?_)) (fun c7 => (?_))
      · rcases hb with ⟨h1, h⟩ | ⟨h1, h⟩
        · rw [h1]; exact hQ1 h
        · rw [h1]; exact hQ0 h
      · exfalso; omega
  refine k_i (dc kc_X12_doDiffer_0 0 rfl) rfl <| t_i1 (dc kc_X12_doDiffer_0 1 rfl) (Nat.le_of_ble_eq_true rfl) rfl <| k_i (dc kc_X12_doDiffer_0 2 rfl) rfl <| t_i2 (dc kc_X12_doDiffer_0 3 rfl) (Nat.le_of_ble_eq_true rfl) rfl <| ?_
  refine outer 0 (Nat.zero_le _) 0 _ (Or.inr ⟨rfl, ?_⟩)
  rintro ⟨c', a, b, _⟩
  omega
end LK6
