/-! the reference: bearsOn, writes, marks -/
theorem mem_nd {q : CT} {a : Int} : a ∈ nd1 q ↔ (q.1 = 9 ∧ a = 3 + q.2) ∨ ((q.1 = 20 ∨ q.1 = 2) ∧ (a = q.2 ∨ a = 6 ∨ a = 8)) ∨ (q.1 = 1 ∧ (a = q.2 ∨ a = 6 ∨ a = 7)) ∨ ((q.1 = 19 ∨ q.1 = 0 ∨ q.1 = 25 ∨ q.1 = 3) ∧ (a = q.2 ∨ a = 6)) := by
  unfold nd1
  split
  · rw [List.mem_singleton]; omega
  · split
    · simp only [List.mem_cons, List.not_mem_nil, or_false]; omega
    · split
      · simp only [List.mem_cons, List.not_mem_nil, or_false]; omega
      · split
        · simp only [List.mem_cons, List.not_mem_nil, or_false]; omega
        · simp only [List.not_mem_nil, false_iff]; omega
theorem mem_wd {q : CT} {a : Int} : a ∈ wd1 q ↔ (q.1 = 9 ∧ a = 3 + q.2) ∨ (q.1 = 20 ∧ (a = q.2 ∨ a = 6)) ∨ ((q.1 = 19 ∨ q.1 = 0 ∨ q.1 = 1 ∨ q.1 = 2 ∨ q.1 = 25 ∨ q.1 = 3) ∧ a = q.2) := by
  unfold wd1
  split
  · rw [List.mem_singleton]; omega
  · split
    · simp only [List.mem_cons, List.not_mem_nil, or_false]; omega
    · split
      · rw [List.mem_singleton]; omega
      · simp only [List.not_mem_nil, false_iff]; omega
def needL (k : List CT) : List Int := k.flatMap nd1
/-- heads and names of a law's words; of nodes' cells next and key -/
theorem wd_nd {k : List CT} {ts ts' : List Nat} (hty : tyc k ts = some ts') {a : Int} (h0 : 0 ≤ a) (h5 : a ≤ 5) : a ∈ k.flatMap wd1 ↔ a ∈ needL k := by
  unfold needL
  rw [List.mem_flatMap, List.mem_flatMap]
  constructor
  · rintro ⟨q, hq, h⟩
    refine ⟨q, hq, ?_⟩
    rw [mem_wd] at h
    rw [mem_nd]
    omega
  · rintro ⟨q, hq, h⟩
    refine ⟨q, hq, ?_⟩
    rw [mem_nd] at h
    rw [mem_wd]
    omega
theorem wd_next {k : List CT} {ts ts' : List Nat} (hty : tyc k ts = some ts') : (∃ a, 0 ≤ a ∧ a ≤ 2 ∧ a ∈ k.flatMap wd1) ↔ 6 ∈ needL k := by
  unfold needL
  simp only [List.mem_flatMap]
  constructor
  · rintro ⟨a, h0, h1, q, hq, h⟩
    refine ⟨q, hq, ?_⟩
    have ha := tyc_arg hty q hq
    rw [mem_wd] at h
    rw [mem_nd]
    omega
  · rintro ⟨q, hq, h⟩
    have ha := tyc_arg hty q hq
    rw [mem_nd] at h
    refine ⟨q.2, by omega, by omega, q, hq, ?_⟩
    rw [mem_wd]
    omega
theorem bAnd_7 {m : Int} {L : List Int} (h : Bm m L) : bAnd m 7 ≠ 0 ↔ ∃ a, 0 ≤ a ∧ a ≤ 2 ∧ a ∈ L := by
  have h7 : Bm 7 [0, 1, 2] := by
    have := mkM_bm [0, 1, 2] (by decide)
    rw [show mkM [0, 1, 2] = 7 by decide] at this
    exact this
  have := bAnd0 h7 h (by decide)
  have e : bAnd m 7 = bAnd 7 m := by
    refine tB_ext (bAnd_rg _ _) (bAnd_rg _ _) fun i _ => ?_
    rw [tB_and, tB_and, Bool.and_comm]
  rw [e, Ne, this]
  constructor
  · intro hn
    apply Classical.byContradiction
    intro hno
    exact hn fun a ha hb => hno ⟨a, by simp at ha; omega, by simp at ha; omega, hb⟩
  · rintro ⟨a, h0, h1, h2⟩ hn
    have : a = 0 ∨ a = 1 ∨ a = 2 := by omega
    exact hn a (by rcases this with rfl | rfl | rfl <;> decide) h2
theorem bAnd_64 {m : Int} {L : List Int} (h : Bm m L) : bAnd m 64 ≠ 0 ↔ 6 ∈ L := by
  have h6 : Bm 64 [6] := by
    have := mkM_bm [6] (by decide)
    rw [show mkM [6] = 64 by decide] at this
    exact this
  have := bAnd0 h6 h (by decide)
  have e : bAnd m 64 = bAnd 64 m := by
    refine tB_ext (bAnd_rg _ _) (bAnd_rg _ _) fun i _ => ?_
    rw [tB_and, tB_and, Bool.and_comm]
  rw [e, Ne, this]
  simp
/-- a line of the reference's row -/
def WfTgt (ρ : Int → Int) (j : Int) : Prop := 0 ≤ ρ (2166 + 10 * j) ∧ ρ (2166 + 10 * j) ≤ 5 ∧ (ρ (2166 + 10 * j) ≤ 1 → 0 ≤ ρ (2166 + 10 * j + 1) ∧ ρ (2166 + 10 * j + 1) ≤ 2)
theorem WfTgt.cs {ρ : Int → Int} {j : Int} (h : WfTgt ρ j) : (ρ (2166 + 10 * j) = 0 ∧ tgtOf ρ j = ρ (2166 + 10 * j + 1) ∧ 0 ≤ tgtOf ρ j ∧ tgtOf ρ j ≤ 2) ∨ (ρ (2166 + 10 * j) = 1 ∧ tgtOf ρ j = 3 + ρ (2166 + 10 * j + 1) ∧ 3 ≤ tgtOf ρ j ∧ tgtOf ρ j ≤ 5) ∨ (ρ (2166 + 10 * j) = 2 ∧ tgtOf ρ j = 6) ∨ (ρ (2166 + 10 * j) = 3 ∧ tgtOf ρ j = 7) ∨ (ρ (2166 + 10 * j) = 4 ∧ tgtOf ρ j = 8) ∨ (ρ (2166 + 10 * j) = 5 ∧ tgtOf ρ j = 9) := by
  obtain ⟨h0, h1, h2⟩ := h
  unfold tgtOf
  repeat' split
  all_goals omega
theorem law7 {ρ : Int → Int} {l : Int} (hw : WfLaw ρ l) : 7 ∈ needL (lawC ρ l) ↔ ρ (2046 + 10 * l) = 1 := by
  have hty := hw.2.2.2.1
  unfold needL
  rw [List.mem_flatMap]
  rcases hw.cs with ⟨e, ec, hs⟩ | ⟨hn, hr, ⟨e, ec⟩ | ⟨e, ec⟩ | ⟨e, ec⟩ | ⟨e, ec, hr2⟩⟩
  · constructor
    · rintro ⟨q, hq, h⟩
      have ha := tyc_arg hty q hq
      rw [ec] at hq
      obtain ⟨i, _, _, e2⟩ := slc_mem hq
      have := tokOf_no (op := ρ (2286 + 2 * i)) (arg := ρ (2286 + 2 * i + 1))
      rw [← e2] at this
      rw [mem_nd] at h
      omega
    · intro h; omega
  all_goals
    rw [ec]
    constructor
    · rintro ⟨q, hq, h⟩
      simp only [List.mem_cons, List.not_mem_nil, or_false] at hq
      rw [mem_nd] at h
      first
        | (subst hq; simp only at h; omega)
        | (rcases hq with hq | hq <;> subst hq <;> simp only at h <;> omega)
    · intro h
      first
        | (exfalso; omega)
        | exact ⟨_, List.mem_cons_self, by rw [mem_nd]; simp⟩
theorem law8 {ρ : Int → Int} {l : Int} (hw : WfLaw ρ l) : 8 ∈ needL (lawC ρ l) ↔ (ρ (2046 + 10 * l) = 2 ∨ 6 ∈ (lawC ρ l).flatMap wd1) := by
  have hty := hw.2.2.2.1
  unfold needL
  rw [List.mem_flatMap, List.mem_flatMap]
  rcases hw.cs with ⟨e, ec, hs⟩ | ⟨hn, hr, ⟨e, ec⟩ | ⟨e, ec⟩ | ⟨e, ec⟩ | ⟨e, ec, hr2⟩⟩
  · constructor
    · rintro ⟨q, hq, h⟩
      have ha := tyc_arg hty q hq
      have hq' := hq
      rw [ec] at hq
      obtain ⟨i, _, _, e2⟩ := slc_mem hq
      have := tokOf_no (op := ρ (2286 + 2 * i)) (arg := ρ (2286 + 2 * i + 1))
      rw [← e2] at this
      rw [mem_nd] at h
      exact Or.inr ⟨q, hq', by rw [mem_wd]; omega⟩
    · rintro (h | ⟨q, hq, h⟩)
      · omega
      · have ha := tyc_arg hty q hq
        refine ⟨q, hq, ?_⟩
        rw [mem_wd] at h
        rw [mem_nd]
        omega
  all_goals
    rw [ec]
    constructor
    · rintro ⟨q, hq, h⟩
      simp only [List.mem_cons, List.not_mem_nil, or_false] at hq
      rw [mem_nd] at h
      first
        | (subst hq; simp only at h; omega)
        | (rcases hq with hq | hq <;> subst hq <;> simp only at h <;> omega)
    · rintro (h | ⟨q, hq, h⟩)
      · first
        | (exfalso; omega)
        | exact ⟨_, List.mem_cons_self, by rw [mem_nd]; simp⟩
      · simp only [List.mem_cons, List.not_mem_nil, or_false] at hq
        rw [mem_wd] at h
        exfalso
        first
        | (subst hq; simp only at h; omega)
        | (rcases hq with hq | hq <;> subst hq <;> simp only at h <;> omega)
theorem law9 {ρ : Int → Int} {l : Int} (hw : WfLaw ρ l) : 9 ∉ needL (lawC ρ l) := by
  have hty := hw.2.2.2.1
  unfold needL
  rw [List.mem_flatMap]
  rintro ⟨q, hq, h⟩
  have ha := tyc_arg hty q hq
  rw [mem_nd] at h
  omega
def p81 (j : Nat) (_ : Int) : Bool := j == 81
def kw0 (ρ : Int → Int) : Int → Int := if ρ 8 = 200 then (fun i => if 646 ≤ i ∧ i < 2039 then ρ (i + 7) else if i = 20 then (if ρ 20 < ρ 646 then ρ 646 else ρ 20) else if i = 8 then 199 else ρ i) else ρ
def kw1 (ρ : Int → Int) (s l c v r : Int) : Int → Int := ud (ud (ud (ud (ud (ud (ud (ud ρ (646 + 7 * ρ 8) s) (646 + 7 * ρ 8 + 1) l) (646 + 7 * ρ 8 + 2) c) (646 + 7 * ρ 8 + 3) (ρ (30 + c))) (646 + 7 * ρ 8 + 4) (bAnd (bShr (ρ 19) c) 1)) (646 + 7 * ρ 8 + 5) v) (646 + 7 * ρ 8 + 6) r) 8 (ρ 8 + 1)
/-- a write is kept -/
def kw (ρ : Int → Int) (s l c v r : Int) : Int → Int := kw1 (kw0 ρ) s l c v r
theorem kw0_8 {ρ : Int → Int} (h0 : 0 ≤ ρ 8) (h1 : ρ 8 ≤ 200) : 0 ≤ kw0 ρ 8 ∧ kw0 ρ 8 ≤ 199 := by
  unfold kw0
  by_cases e : ρ 8 = 200
  · rw [if_pos e]; simp
  · rw [if_neg e]; omega
def mkR (ρ : Int → Int) (c b : Int) : Int → Int := ud ρ 19 (if b = 0 then bClr (ρ 19) c else bSet (ρ 19) c)
section REF8
variable {d n G : Nat} {mr : MR} {Q : V → MI → Nat → MR → Prop}
theorem t_bearsOn (hL : Lay G mr) {mi : MI} {j l : Int} (h0 : 0 ≤ l) (h1 : l < 12) (hw : WfLaw (mi 0 81) l) (hj0 : 0 ≤ j) (hj1 : j < 12) (ht : WfTgt (mi 0 81) j) (hQ : Q (vI (bi (tgtOf (mi 0 81) j ∈ needL (lawC (mi 0 81) l)))) mi n mr) : Tx (d+2) mt_X12_bearsOn [vR (some (0, 80)), vI j, vI l] mi n mr Q := by
  refine tx_intro (ls := [vR (some (0, 80)), vI j, vI l, vX 0, vX 0, vX 0]) om_X12_bearsOn rfl (Nat.le_of_ble_eq_true rfl) ?_
  refine k_s (dc kc_X12_bearsOn_0 0 rfl) rfl <| k_b (dc kc_X12_bearsOn_0 1 rfl) rfl <| s_iload_n (dc kc_X12_bearsOn_0 2 rfl) rfl <| b_imul (dc kc_X12_bearsOn_0 3 rfl) (by first | omega | (simp [up] <;> omega)) (by first | omega | (simp [up] <;> omega)) <| b_iadd (dc kc_X12_bearsOn_0 4 rfl) (by first | omega | (simp [up] <;> omega)) (by first | omega | (simp [up] <;> omega)) <| t_i3 (dc kc_X12_bearsOn_0 5 rfl) (Nat.le_of_ble_eq_true rfl) rfl <| r_aload_n (dc kc_X12_bearsOn_0 6 rfl) rfl <| s_iload_n (dc kc_X12_bearsOn_0 7 rfl) rfl <| c_v1r (dc kc_X12_bearsOn_0 8 rfl) cl_X12_377 rfl (Nat.le_of_ble_eq_true rfl) (Nat.zero_le _) (Nat.zero_le _) ?_
  refine t_wordsOf hL h0 h1 hw (fun m hm => ?_)
  have hty := hw.2.2.2.1
  rcases ht.cs with ⟨e, et, hr⟩ | ⟨e, et, hr⟩ | ⟨e, et⟩ | ⟨e, et⟩ | ⟨e, et⟩ | ⟨e, et⟩
  · have hb := hm.bit (a := mi 0 81 (2166 + 10 * j + 1)) (by omega) (by omega)
    have hb1 := bit_is (x := m) (k := mi 0 81 (2166 + 10 * j + 1)) (by omega) (by omega)
    have := wd_nd hty (a := mi 0 81 (2166 + 10 * j + 1)) (by omega) (by omega)
    rw [et, bi_congr this.symm] at hQ
    refine t_i4 (dc kc_X12_bearsOn_0 9 rfl) (Nat.le_of_ble_eq_true rfl) rfl <| r_aload_n (dc kc_X12_bearsOn_0 10 rfl) rfl <| s_getA (dc kc_X12_bearsOn_0 11 rfl) fl_X12_7 (ly_80_2 hL) <| k_s (dc kc_X12_bearsOn_0 12 rfl) rfl <| k_b (dc kc_X12_bearsOn_0 13 rfl) rfl <| s_iload_n (dc kc_X12_bearsOn_0 14 rfl) rfl <| b_imul (dc kc_X12_bearsOn_0 15 rfl) (by first | omega | (simp [up] <;> omega)) (by first | omega | (simp [up] <;> omega)) <| b_iadd (dc kc_X12_bearsOn_0 16 rfl) (by first | omega | (simp [up] <;> omega)) (by first | omega | (simp [up] <;> omega)) <| s_iaload (dc kc_X12_bearsOn_0 17 rfl) rfl (by first | omega | (simp [up] <;> omega)) (by first | omega | (simp [up] <;> omega)) <| t_i5 (dc kc_X12_bearsOn_0 18 rfl) (Nat.le_of_ble_eq_true rfl) rfl <| r_aload_n (dc kc_X12_bearsOn_0 19 rfl) rfl <| s_getA (dc kc_X12_bearsOn_0 20 rfl) fl_X12_7 (ly_80_2 hL) <| s_iload_n (dc kc_X12_bearsOn_0 21 rfl) rfl <| s_iaload (dc kc_X12_bearsOn_0 22 rfl) rfl (by first | omega | (simp [up] <;> omega)) (by first | omega | (simp [up] <;> omega)) <| s_tabC (k0 := 0) (tgt := 72) (dc kc_X12_bearsOn_0 23 rfl) ?_ rfl rfl rfl <| s_iload (dc kc_X12_bearsOn_0 24 rfl) rfl <| r_aload_n (dc kc_X12_bearsOn_0 25 rfl) rfl <| s_getA (dc kc_X12_bearsOn_0 26 rfl) fl_X12_7 (ly_80_2 hL) <| s_iload_n (dc kc_X12_bearsOn_0 27 rfl) rfl <| k_i (dc kc_X12_bearsOn_0 28 rfl) rfl <| b_iadd (dc kc_X12_bearsOn_0 29 rfl) (by first | omega | (simp [up] <;> omega)) (by first | omega | (simp [up] <;> omega)) <| s_iaload (dc kc_X12_bearsOn_0 30 rfl) rfl (by first | omega | (simp [up] <;> omega)) (by first | omega | (simp [up] <;> omega)) <| s_ishr (dc kc_X12_bearsOn_0 31 rfl) <| k_i (dc kc_X12_bearsOn_0 32 rfl) rfl <| s_iand (dc kc_X12_bearsOn_0 33 rfl) <| k_i (dc kc_X12_bearsOn_0 34 rfl) rfl <| s_icmp_ne (tgt := 93) (dc kc_X12_bearsOn_0 35 rfl) rfl (fun c86 => (k_i (dc kc_X12_bearsOn_0 38 rfl) rfl <| s_zreturn (dc kc_X12_bearsOn_0 39 rfl) rfl (by first | exact Or.inl rfl | exact Or.inr rfl | exact bi_01 | assumption) (Nat.zero_le _) (Nat.zero_le _) ?_)) (fun c86 => (k_i (dc kc_X12_bearsOn_0 36 rfl) rfl <| s_goto (tgt := 94) (dc kc_X12_bearsOn_0 37 rfl) rfl <| s_zreturn (dc kc_X12_bearsOn_0 39 rfl) rfl (by first | exact Or.inl rfl | exact Or.inr rfl | exact bi_01 | assumption) (Nat.zero_le _) (Nat.zero_le _) ?_))
    · exact e
    · rw [bi_f] at hQ
      · exact hQ
      · rw [← hb]; rw [hb1] at c86 ⊢; revert c86; split <;> simp
    · rw [bi_t] at hQ
      · exact hQ
      · apply Classical.byContradiction; intro z; rw [← hb] at z; omega
  · have hb := hm.bit (a := 3 + mi 0 81 (2166 + 10 * j + 1)) (by omega) (by omega)
    have hb1 := bit_is (x := m) (k := 3 + mi 0 81 (2166 + 10 * j + 1)) (by omega) (by omega)
    have := wd_nd hty (a := 3 + mi 0 81 (2166 + 10 * j + 1)) (by omega) (by omega)
    rw [et, bi_congr this.symm] at hQ
    refine t_i4 (dc kc_X12_bearsOn_0 9 rfl) (Nat.le_of_ble_eq_true rfl) rfl <| r_aload_n (dc kc_X12_bearsOn_0 10 rfl) rfl <| s_getA (dc kc_X12_bearsOn_0 11 rfl) fl_X12_7 (ly_80_2 hL) <| k_s (dc kc_X12_bearsOn_0 12 rfl) rfl <| k_b (dc kc_X12_bearsOn_0 13 rfl) rfl <| s_iload_n (dc kc_X12_bearsOn_0 14 rfl) rfl <| b_imul (dc kc_X12_bearsOn_0 15 rfl) (by first | omega | (simp [up] <;> omega)) (by first | omega | (simp [up] <;> omega)) <| b_iadd (dc kc_X12_bearsOn_0 16 rfl) (by first | omega | (simp [up] <;> omega)) (by first | omega | (simp [up] <;> omega)) <| s_iaload (dc kc_X12_bearsOn_0 17 rfl) rfl (by first | omega | (simp [up] <;> omega)) (by first | omega | (simp [up] <;> omega)) <| t_i5 (dc kc_X12_bearsOn_0 18 rfl) (Nat.le_of_ble_eq_true rfl) rfl <| r_aload_n (dc kc_X12_bearsOn_0 19 rfl) rfl <| s_getA (dc kc_X12_bearsOn_0 20 rfl) fl_X12_7 (ly_80_2 hL) <| s_iload_n (dc kc_X12_bearsOn_0 21 rfl) rfl <| s_iaload (dc kc_X12_bearsOn_0 22 rfl) rfl (by first | omega | (simp [up] <;> omega)) (by first | omega | (simp [up] <;> omega)) <| s_tabC (k0 := 1) (tgt := 95) (dc kc_X12_bearsOn_0 23 rfl) ?_ rfl rfl rfl <| s_iload (dc kc_X12_bearsOn_1 0 rfl) rfl <| k_i (dc kc_X12_bearsOn_1 1 rfl) rfl <| r_aload_n (dc kc_X12_bearsOn_1 2 rfl) rfl <| s_getA (dc kc_X12_bearsOn_1 3 rfl) fl_X12_7 (ly_80_2 hL) <| s_iload_n (dc kc_X12_bearsOn_1 4 rfl) rfl <| k_i (dc kc_X12_bearsOn_1 5 rfl) rfl <| b_iadd (dc kc_X12_bearsOn_1 6 rfl) (by first | omega | (simp [up] <;> omega)) (by first | omega | (simp [up] <;> omega)) <| s_iaload (dc kc_X12_bearsOn_1 7 rfl) rfl (by first | omega | (simp [up] <;> omega)) (by first | omega | (simp [up] <;> omega)) <| b_iadd (dc kc_X12_bearsOn_1 8 rfl) (by first | omega | (simp [up] <;> omega)) (by first | omega | (simp [up] <;> omega)) <| s_ishr (dc kc_X12_bearsOn_1 9 rfl) <| k_i (dc kc_X12_bearsOn_1 10 rfl) rfl <| s_iand (dc kc_X12_bearsOn_1 11 rfl) <| k_i (dc kc_X12_bearsOn_1 12 rfl) rfl <| s_icmp_ne (tgt := 118) (dc kc_X12_bearsOn_1 13 rfl) rfl (fun c111 => (k_i (dc kc_X12_bearsOn_1 16 rfl) rfl <| s_zreturn (dc kc_X12_bearsOn_1 17 rfl) rfl (by first | exact Or.inl rfl | exact Or.inr rfl | exact bi_01 | assumption) (Nat.zero_le _) (Nat.zero_le _) ?_)) (fun c111 => (k_i (dc kc_X12_bearsOn_1 14 rfl) rfl <| s_goto (tgt := 119) (dc kc_X12_bearsOn_1 15 rfl) rfl <| s_zreturn (dc kc_X12_bearsOn_1 17 rfl) rfl (by first | exact Or.inl rfl | exact Or.inr rfl | exact bi_01 | assumption) (Nat.zero_le _) (Nat.zero_le _) ?_))
    · exact e
    · rw [bi_f] at hQ
      · exact hQ
      · rw [← hb]; rw [hb1] at c111 ⊢; revert c111; split <;> simp
    · rw [bi_t] at hQ
      · exact hQ
      · apply Classical.byContradiction; intro z; rw [← hb] at z; omega
  · have hb := bAnd_7 hm
    have := wd_next hty
    rw [et, bi_congr (this.symm.trans hb.symm)] at hQ
    refine t_i4 (dc kc_X12_bearsOn_0 9 rfl) (Nat.le_of_ble_eq_true rfl) rfl <| r_aload_n (dc kc_X12_bearsOn_0 10 rfl) rfl <| s_getA (dc kc_X12_bearsOn_0 11 rfl) fl_X12_7 (ly_80_2 hL) <| k_s (dc kc_X12_bearsOn_0 12 rfl) rfl <| k_b (dc kc_X12_bearsOn_0 13 rfl) rfl <| s_iload_n (dc kc_X12_bearsOn_0 14 rfl) rfl <| b_imul (dc kc_X12_bearsOn_0 15 rfl) (by first | omega | (simp [up] <;> omega)) (by first | omega | (simp [up] <;> omega)) <| b_iadd (dc kc_X12_bearsOn_0 16 rfl) (by first | omega | (simp [up] <;> omega)) (by first | omega | (simp [up] <;> omega)) <| s_iaload (dc kc_X12_bearsOn_0 17 rfl) rfl (by first | omega | (simp [up] <;> omega)) (by first | omega | (simp [up] <;> omega)) <| t_i5 (dc kc_X12_bearsOn_0 18 rfl) (Nat.le_of_ble_eq_true rfl) rfl <| r_aload_n (dc kc_X12_bearsOn_0 19 rfl) rfl <| s_getA (dc kc_X12_bearsOn_0 20 rfl) fl_X12_7 (ly_80_2 hL) <| s_iload_n (dc kc_X12_bearsOn_0 21 rfl) rfl <| s_iaload (dc kc_X12_bearsOn_0 22 rfl) rfl (by first | omega | (simp [up] <;> omega)) (by first | omega | (simp [up] <;> omega)) <| s_tabC (k0 := 2) (tgt := 120) (dc kc_X12_bearsOn_0 23 rfl) ?_ rfl rfl rfl <| s_iload (dc kc_X12_bearsOn_1 18 rfl) rfl <| k_b (dc kc_X12_bearsOn_1 19 rfl) rfl <| s_iand (dc kc_X12_bearsOn_1 20 rfl) <| s_if_eq (tgt := 132) (dc kc_X12_bearsOn_1 21 rfl) rfl (fun c125 => (k_i (dc kc_X12_bearsOn_1 24 rfl) rfl <| s_zreturn (dc kc_X12_bearsOn_1 25 rfl) rfl (by first | exact Or.inl rfl | exact Or.inr rfl | exact bi_01 | assumption) (Nat.zero_le _) (Nat.zero_le _) ?_)) (fun c125 => (k_i (dc kc_X12_bearsOn_1 22 rfl) rfl <| s_goto (tgt := 133) (dc kc_X12_bearsOn_1 23 rfl) rfl <| s_zreturn (dc kc_X12_bearsOn_1 25 rfl) rfl (by first | exact Or.inl rfl | exact Or.inr rfl | exact bi_01 | assumption) (Nat.zero_le _) (Nat.zero_le _) ?_))
    · exact e
    · rw [bi_f (fun z => z c125)] at hQ; exact hQ
    · rw [bi_t c125] at hQ; exact hQ
  · rw [et, bi_congr (law7 hw)] at hQ
    refine t_i4 (dc kc_X12_bearsOn_0 9 rfl) (Nat.le_of_ble_eq_true rfl) rfl <| r_aload_n (dc kc_X12_bearsOn_0 10 rfl) rfl <| s_getA (dc kc_X12_bearsOn_0 11 rfl) fl_X12_7 (ly_80_2 hL) <| k_s (dc kc_X12_bearsOn_0 12 rfl) rfl <| k_b (dc kc_X12_bearsOn_0 13 rfl) rfl <| s_iload_n (dc kc_X12_bearsOn_0 14 rfl) rfl <| b_imul (dc kc_X12_bearsOn_0 15 rfl) (by first | omega | (simp [up] <;> omega)) (by first | omega | (simp [up] <;> omega)) <| b_iadd (dc kc_X12_bearsOn_0 16 rfl) (by first | omega | (simp [up] <;> omega)) (by first | omega | (simp [up] <;> omega)) <| s_iaload (dc kc_X12_bearsOn_0 17 rfl) rfl (by first | omega | (simp [up] <;> omega)) (by first | omega | (simp [up] <;> omega)) <| t_i5 (dc kc_X12_bearsOn_0 18 rfl) (Nat.le_of_ble_eq_true rfl) rfl <| r_aload_n (dc kc_X12_bearsOn_0 19 rfl) rfl <| s_getA (dc kc_X12_bearsOn_0 20 rfl) fl_X12_7 (ly_80_2 hL) <| s_iload_n (dc kc_X12_bearsOn_0 21 rfl) rfl <| s_iaload (dc kc_X12_bearsOn_0 22 rfl) rfl (by first | omega | (simp [up] <;> omega)) (by first | omega | (simp [up] <;> omega)) <| s_tabC (k0 := 3) (tgt := 134) (dc kc_X12_bearsOn_0 23 rfl) ?_ rfl rfl rfl <| s_iload (dc kc_X12_bearsOn_1 26 rfl) rfl <| k_i (dc kc_X12_bearsOn_1 27 rfl) rfl <| s_icmp_ne (tgt := 144) (dc kc_X12_bearsOn_1 28 rfl) rfl (fun c137 => (k_i (dc kc_X12_bearsOn_1 31 rfl) rfl <| s_zreturn (dc kc_X12_bearsOn_1 32 rfl) rfl (by first | exact Or.inl rfl | exact Or.inr rfl | exact bi_01 | assumption) (Nat.zero_le _) (Nat.zero_le _) ?_)) (fun c137 => (k_i (dc kc_X12_bearsOn_1 29 rfl) rfl <| s_goto (tgt := 145) (dc kc_X12_bearsOn_1 30 rfl) rfl <| s_zreturn (dc kc_X12_bearsOn_1 32 rfl) rfl (by first | exact Or.inl rfl | exact Or.inr rfl | exact bi_01 | assumption) (Nat.zero_le _) (Nat.zero_le _) ?_))
    · exact e
    · rw [bi_f c137] at hQ; exact hQ
    · rw [bi_t c137] at hQ; exact hQ
  · have hb := bAnd_64 hm
    rw [et, bi_congr (law8 hw)] at hQ
    refine t_i4 (dc kc_X12_bearsOn_0 9 rfl) (Nat.le_of_ble_eq_true rfl) rfl <| r_aload_n (dc kc_X12_bearsOn_0 10 rfl) rfl <| s_getA (dc kc_X12_bearsOn_0 11 rfl) fl_X12_7 (ly_80_2 hL) <| k_s (dc kc_X12_bearsOn_0 12 rfl) rfl <| k_b (dc kc_X12_bearsOn_0 13 rfl) rfl <| s_iload_n (dc kc_X12_bearsOn_0 14 rfl) rfl <| b_imul (dc kc_X12_bearsOn_0 15 rfl) (by first | omega | (simp [up] <;> omega)) (by first | omega | (simp [up] <;> omega)) <| b_iadd (dc kc_X12_bearsOn_0 16 rfl) (by first | omega | (simp [up] <;> omega)) (by first | omega | (simp [up] <;> omega)) <| s_iaload (dc kc_X12_bearsOn_0 17 rfl) rfl (by first | omega | (simp [up] <;> omega)) (by first | omega | (simp [up] <;> omega)) <| t_i5 (dc kc_X12_bearsOn_0 18 rfl) (Nat.le_of_ble_eq_true rfl) rfl <| r_aload_n (dc kc_X12_bearsOn_0 19 rfl) rfl <| s_getA (dc kc_X12_bearsOn_0 20 rfl) fl_X12_7 (ly_80_2 hL) <| s_iload_n (dc kc_X12_bearsOn_0 21 rfl) rfl <| s_iaload (dc kc_X12_bearsOn_0 22 rfl) rfl (by first | omega | (simp [up] <;> omega)) (by first | omega | (simp [up] <;> omega)) <| s_tabC (k0 := 4) (tgt := 146) (dc kc_X12_bearsOn_0 23 rfl) ?_ rfl rfl rfl <| s_iload (dc kc_X12_bearsOn_1 33 rfl) rfl <| k_i (dc kc_X12_bearsOn_1 34 rfl) rfl <| s_icmp_eq (tgt := 160) (dc kc_X12_bearsOn_1 35 rfl) rfl (fun c149 => (k_i (dc kc_X12_bearsOn_2 0 rfl) rfl <| s_goto (tgt := 165) (dc kc_X12_bearsOn_2 1 rfl) rfl <| s_zreturn (dc kc_X12_bearsOn_2 3 rfl) rfl (by first | exact Or.inl rfl | exact Or.inr rfl | exact bi_01 | assumption) (Nat.zero_le _) (Nat.zero_le _) ?_)) (fun c149 => (s_iload (dc kc_X12_bearsOn_1 36 rfl) rfl <| k_b (dc kc_X12_bearsOn_1 37 rfl) rfl <| s_iand (dc kc_X12_bearsOn_1 38 rfl) <| s_if_eq (tgt := 164) (dc kc_X12_bearsOn_1 39 rfl) rfl (fun c157 => (k_i (dc kc_X12_bearsOn_2 2 rfl) rfl <| s_zreturn (dc kc_X12_bearsOn_2 3 rfl) rfl (by first | exact Or.inl rfl | exact Or.inr rfl | exact bi_01 | assumption) (Nat.zero_le _) (Nat.zero_le _) ?_)) (fun c157 => (k_i (dc kc_X12_bearsOn_2 0 rfl) rfl <| s_goto (tgt := 165) (dc kc_X12_bearsOn_2 1 rfl) rfl <| s_zreturn (dc kc_X12_bearsOn_2 3 rfl) rfl (by first | exact Or.inl rfl | exact Or.inr rfl | exact bi_01 | assumption) (Nat.zero_le _) (Nat.zero_le _) ?_))))
    · exact e
    · rw [bi_t (Or.inl c149)] at hQ; exact hQ
    · rw [bi_f (fun z => z.elim c149 (fun y => hb.mpr y c157))] at hQ; exact hQ
    · rw [bi_t (Or.inr (hb.mp c157))] at hQ; exact hQ
  · rw [et, bi_f (law9 hw)] at hQ
    refine t_i4 (dc kc_X12_bearsOn_0 9 rfl) (Nat.le_of_ble_eq_true rfl) rfl <| r_aload_n (dc kc_X12_bearsOn_0 10 rfl) rfl <| s_getA (dc kc_X12_bearsOn_0 11 rfl) fl_X12_7 (ly_80_2 hL) <| k_s (dc kc_X12_bearsOn_0 12 rfl) rfl <| k_b (dc kc_X12_bearsOn_0 13 rfl) rfl <| s_iload_n (dc kc_X12_bearsOn_0 14 rfl) rfl <| b_imul (dc kc_X12_bearsOn_0 15 rfl) (by first | omega | (simp [up] <;> omega)) (by first | omega | (simp [up] <;> omega)) <| b_iadd (dc kc_X12_bearsOn_0 16 rfl) (by first | omega | (simp [up] <;> omega)) (by first | omega | (simp [up] <;> omega)) <| s_iaload (dc kc_X12_bearsOn_0 17 rfl) rfl (by first | omega | (simp [up] <;> omega)) (by first | omega | (simp [up] <;> omega)) <| t_i5 (dc kc_X12_bearsOn_0 18 rfl) (Nat.le_of_ble_eq_true rfl) rfl <| r_aload_n (dc kc_X12_bearsOn_0 19 rfl) rfl <| s_getA (dc kc_X12_bearsOn_0 20 rfl) fl_X12_7 (ly_80_2 hL) <| s_iload_n (dc kc_X12_bearsOn_0 21 rfl) rfl <| s_iaload (dc kc_X12_bearsOn_0 22 rfl) rfl (by first | omega | (simp [up] <;> omega)) (by first | omega | (simp [up] <;> omega)) <| s_tabD (tgt := 166) (dc kc_X12_bearsOn_0 23 rfl) ?_ rfl <| k_i (dc kc_X12_bearsOn_2 4 rfl) rfl <| s_zreturn (dc kc_X12_bearsOn_2 5 rfl) rfl (by first | exact Or.inl rfl | exact Or.inr rfl | exact bi_01 | assumption) (Nat.zero_le _) (Nat.zero_le _) ?_
    · omega
    · exact hQ
theorem t_mark (hL : Lay G mr) {mi : MI} {c b : Int} (hQ : Q (vX 0) (up mi 0 81 19 (if b = 0 then bClr (mi 0 81 19) c else bSet (mi 0 81 19) c)) n mr) : Tx (d+1) mt_X12_mark [vR (some (0, 80)), vI c, vI b] mi n mr Q := by
  refine tx_intro (ls := [vR (some (0, 80)), vI c, vI b]) om_X12_mark rfl (Nat.le_of_ble_eq_true rfl) ?_
  refine r_aload_n (dc kc_X12_mark 0 rfl) rfl <| s_getA (dc kc_X12_mark 1 rfl) fl_X12_7 (ly_80_2 hL) <| k_b (dc kc_X12_mark 2 rfl) rfl <| s_iload_n (dc kc_X12_mark 3 rfl) rfl <| s_if_eq (tgt := 24) (dc kc_X12_mark 4 rfl) rfl (fun c7 => (r_aload_n (dc kc_X12_mark 14 rfl) rfl <| s_getA (dc kc_X12_mark 15 rfl) fl_X12_7 (ly_80_2 hL) <| k_b (dc kc_X12_mark 16 rfl) rfl <| s_iaload (dc kc_X12_mark 17 rfl) rfl (by first | omega | (simp [up] <;> omega)) (by first | omega | (simp [up] <;> omega)) <| k_i (dc kc_X12_mark 18 rfl) rfl <| s_iload_n (dc kc_X12_mark 19 rfl) rfl <| s_ishl (dc kc_X12_mark 20 rfl) <| k_i (dc kc_X12_mark 21 rfl) rfl <| s_ixor (dc kc_X12_mark 22 rfl) <| s_iand (dc kc_X12_mark 23 rfl) <| s_iastore (dc kc_X12_mark 24 rfl) rfl (by first | omega | (simp [up] <;> omega)) (by first | omega | (simp [up] <;> omega)) <| s_return (dc kc_X12_mark 25 rfl) rfl (Nat.zero_le _) (Nat.zero_le _) ?_)) (fun c7 => (r_aload_n (dc kc_X12_mark 5 rfl) rfl <| s_getA (dc kc_X12_mark 6 rfl) fl_X12_7 (ly_80_2 hL) <| k_b (dc kc_X12_mark 7 rfl) rfl <| s_iaload (dc kc_X12_mark 8 rfl) rfl (by first | omega | (simp [up] <;> omega)) (by first | omega | (simp [up] <;> omega)) <| k_i (dc kc_X12_mark 9 rfl) rfl <| s_iload_n (dc kc_X12_mark 10 rfl) rfl <| s_ishl (dc kc_X12_mark 11 rfl) <| s_ior (dc kc_X12_mark 12 rfl) <| s_goto (tgt := 37) (dc kc_X12_mark 13 rfl) rfl <| s_iastore (dc kc_X12_mark 24 rfl) rfl (by first | omega | (simp [up] <;> omega)) (by first | omega | (simp [up] <;> omega)) <| s_return (dc kc_X12_mark 25 rfl) rfl (Nat.zero_le _) (Nat.zero_le _) ?_))
  · rw [if_pos c7] at hQ; exact hQ
  · rw [if_neg c7] at hQ; exact hQ
theorem keep_loop (hL : Lay G mr) {mi0 : MI} {s l c v r : Int} (hQ : ∀ mi', Ch p81 mi0 mi' → (∀ i, mi' 0 81 i = if 646 ≤ i ∧ i < 2039 then mi0 0 81 (i + 7) else mi0 0 81 i) → Run (d+1) mt_X12_keepWrite Q (n, mr, 0, 0) mi' 95 [vR (some (0, 80)), vI s, vI l, vI c, vI v, vI r, vI 1393] []) : ∀ i : Nat, i ≤ 1393 → ∀ mi, Ch p81 mi0 mi → (∀ j, mi 0 81 j = if 646 ≤ j ∧ j < 646 + (i : Int) then mi0 0 81 (j + 7) else mi0 0 81 j) → Run (d+1) mt_X12_keepWrite Q (n, mr, 0, 0) mi 59 [vR (some (0, 80)), vI s, vI l, vI c, vI v, vI r, vI (i : Int)] [] := by
  refine nloop (N := 1393) ?_
  intro i hi ih mi hCh hrow
  refine s_iload (dc kc_X12_keepWrite_0 30 rfl) rfl <| k_s (dc kc_X12_keepWrite_0 31 rfl) rfl <| s_icmp_ge (tgt := 95) (dc kc_X12_keepWrite_0 32 rfl) rfl (fun c64 => (?_)) (fun c64 => (r_aload_n (dc kc_X12_keepWrite_0 33 rfl) rfl <| s_getA (dc kc_X12_keepWrite_0 34 rfl) fl_X12_7 (ly_80_2 hL) <| k_s (dc kc_X12_keepWrite_0 35 rfl) rfl <| s_iload (dc kc_X12_keepWrite_0 36 rfl) rfl <| b_iadd (dc kc_X12_keepWrite_0 37 rfl) (by first | omega | (simp [up] <;> omega)) (by first | omega | (simp [up] <;> omega)) <| r_aload_n (dc kc_X12_keepWrite_0 38 rfl) rfl <| s_getA (dc kc_X12_keepWrite_0 39 rfl) fl_X12_7 (ly_80_2 hL) <| k_s (dc kc_X12_keepWrite_1 0 rfl) rfl <| s_iload (dc kc_X12_keepWrite_1 1 rfl) rfl <| b_iadd (dc kc_X12_keepWrite_1 2 rfl) (by first | omega | (simp [up] <;> omega)) (by first | omega | (simp [up] <;> omega)) <| s_iaload (dc kc_X12_keepWrite_1 3 rfl) rfl (by first | omega | (simp [up] <;> omega)) (by first | omega | (simp [up] <;> omega)) <| s_iastore (dc kc_X12_keepWrite_1 4 rfl) rfl (by first | omega | (simp [up] <;> omega)) (by first | omega | (simp [up] <;> omega)) <| b_inc6 (dc kc_X12_keepWrite_1 5 rfl) rfl (Nat.le_of_ble_eq_true rfl) rfl (by first | omega | (simp [up] <;> omega)) (by first | omega | (simp [up] <;> omega)) <| s_goto (tgt := 59) (dc kc_X12_keepWrite_1 6 rfl) rfl <| ?_))
  · have e : i = 1393 := by omega
    subst e
    exact hQ mi hCh hrow
  · refine ih (by omega) _ (hCh.up rfl) ?_
    intro j
    rw [up_ud, hrow (653 + (i : Int)), if_neg (by omega)]
    by_cases e : j = 646 + (i : Int)
    · subst e
      rw [ud_at, if_pos (by omega)]
      congr 1
      omega
    · rw [ud_ne e, hrow j]
      by_cases e2 : 646 ≤ j ∧ j < 646 + (i : Int)
      · rw [if_pos e2, if_pos (by omega)]
      · rw [if_neg e2, if_neg (by omega)]
theorem t_keepWrite (hL : Lay G mr) {mi : MI} {s l c v r : Int} (h0 : 0 ≤ mi 0 81 8) (h1 : mi 0 81 8 ≤ 200) (hc0 : 0 ≤ c) (hc1 : c < 24) (hQ : ∀ mi', Ch p81 mi mi' → mi' 0 81 = kw (mi 0 81) s l c v r → Q (vX 0) mi' n mr) : Tx (d+1) mt_X12_keepWrite [vR (some (0, 80)), vI s, vI l, vI c, vI v, vI r] mi n mr Q := by
  refine tx_intro (ls := [vR (some (0, 80)), vI s, vI l, vI c, vI v, vI r, vX 0]) om_X12_keepWrite rfl (Nat.le_of_ble_eq_true rfl) ?_
  have fin : ∀ (mi1 : MI) (x6 : V), Ch p81 mi mi1 → mi1 0 81 = kw0 (mi 0 81) → Run (d+1) mt_X12_keepWrite Q (n, mr, 0, 0) mi1 106 [vR (some (0, 80)), vI s, vI l, vI c, vI v, vI r, x6] [] := by
    intro mi1 x6 hCh hrow
    have h8 := kw0_8 h0 h1
    rw [← hrow] at h8
    refine k_s (dc kc_X12_keepWrite_1 15 rfl) rfl <| k_b (dc kc_X12_keepWrite_1 16 rfl) rfl <| r_aload_n (dc kc_X12_keepWrite_1 17 rfl) rfl <| s_getA (dc kc_X12_keepWrite_1 18 rfl) fl_X12_7 (ly_80_2 hL) <| k_b (dc kc_X12_keepWrite_1 19 rfl) rfl <| s_iaload (dc kc_X12_keepWrite_1 20 rfl) rfl (by first | omega | (simp [up] <;> omega)) (by first | omega | (simp [up] <;> omega)) <| b_imul (dc kc_X12_keepWrite_1 21 rfl) (by first | omega | (simp [up] <;> omega)) (by first | omega | (simp [up] <;> omega)) <| b_iadd (dc kc_X12_keepWrite_1 22 rfl) (by first | omega | (simp [up] <;> omega)) (by first | omega | (simp [up] <;> omega)) <| t_i6 (dc kc_X12_keepWrite_1 23 rfl) (Nat.le_of_ble_eq_true rfl) rfl <| r_aload_n (dc kc_X12_keepWrite_1 24 rfl) rfl <| s_getA (dc kc_X12_keepWrite_1 25 rfl) fl_X12_7 (ly_80_2 hL) <| s_iload (dc kc_X12_keepWrite_1 26 rfl) rfl <| s_iload_n (dc kc_X12_keepWrite_1 27 rfl) rfl <| s_iastore (dc kc_X12_keepWrite_1 28 rfl) rfl (by first | omega | (simp [up] <;> omega)) (by first | omega | (simp [up] <;> omega)) <| r_aload_n (dc kc_X12_keepWrite_1 29 rfl) rfl <| s_getA (dc kc_X12_keepWrite_1 30 rfl) fl_X12_7 (ly_80_2 hL) <| s_iload (dc kc_X12_keepWrite_1 31 rfl) rfl <| k_i (dc kc_X12_keepWrite_1 32 rfl) rfl <| b_iadd (dc kc_X12_keepWrite_1 33 rfl) (by first | omega | (simp [up] <;> omega)) (by first | omega | (simp [up] <;> omega)) <| s_iload_n (dc kc_X12_keepWrite_1 34 rfl) rfl <| s_iastore (dc kc_X12_keepWrite_1 35 rfl) rfl (by first | omega | (simp [up] <;> omega)) (by first | omega | (simp [up] <;> omega)) <| r_aload_n (dc kc_X12_keepWrite_1 36 rfl) rfl <| s_getA (dc kc_X12_keepWrite_1 37 rfl) fl_X12_7 (ly_80_2 hL) <| s_iload (dc kc_X12_keepWrite_1 38 rfl) rfl <| k_i (dc kc_X12_keepWrite_1 39 rfl) rfl <| b_iadd (dc kc_X12_keepWrite_2 0 rfl) (by first | omega | (simp [up] <;> omega)) (by first | omega | (simp [up] <;> omega)) <| s_iload_n (dc kc_X12_keepWrite_2 1 rfl) rfl <| s_iastore (dc kc_X12_keepWrite_2 2 rfl) rfl (by first | omega | (simp [up] <;> omega)) (by first | omega | (simp [up] <;> omega)) <| r_aload_n (dc kc_X12_keepWrite_2 3 rfl) rfl <| s_getA (dc kc_X12_keepWrite_2 4 rfl) fl_X12_7 (ly_80_2 hL) <| s_iload (dc kc_X12_keepWrite_2 5 rfl) rfl <| k_i (dc kc_X12_keepWrite_2 6 rfl) rfl <| b_iadd (dc kc_X12_keepWrite_2 7 rfl) (by first | omega | (simp [up] <;> omega)) (by first | omega | (simp [up] <;> omega)) <| r_aload_n (dc kc_X12_keepWrite_2 8 rfl) rfl <| s_getA (dc kc_X12_keepWrite_2 9 rfl) fl_X12_7 (ly_80_2 hL) <| k_b (dc kc_X12_keepWrite_2 10 rfl) rfl <| s_iload_n (dc kc_X12_keepWrite_2 11 rfl) rfl <| b_iadd (dc kc_X12_keepWrite_2 12 rfl) (by first | omega | (simp [up] <;> omega)) (by first | omega | (simp [up] <;> omega)) <| s_iaload (dc kc_X12_keepWrite_2 13 rfl) rfl (by first | omega | (simp [up] <;> omega)) (by first | omega | (simp [up] <;> omega)) <| s_iastore (dc kc_X12_keepWrite_2 14 rfl) rfl (by first | omega | (simp [up] <;> omega)) (by first | omega | (simp [up] <;> omega)) <| r_aload_n (dc kc_X12_keepWrite_2 15 rfl) rfl <| s_getA (dc kc_X12_keepWrite_2 16 rfl) fl_X12_7 (ly_80_2 hL) <| s_iload (dc kc_X12_keepWrite_2 17 rfl) rfl <| k_i (dc kc_X12_keepWrite_2 18 rfl) rfl <| b_iadd (dc kc_X12_keepWrite_2 19 rfl) (by first | omega | (simp [up] <;> omega)) (by first | omega | (simp [up] <;> omega)) <| r_aload_n (dc kc_X12_keepWrite_2 20 rfl) rfl <| s_getA (dc kc_X12_keepWrite_2 21 rfl) fl_X12_7 (ly_80_2 hL) <| k_b (dc kc_X12_keepWrite_2 22 rfl) rfl <| s_iaload (dc kc_X12_keepWrite_2 23 rfl) rfl (by first | omega | (simp [up] <;> omega)) (by first | omega | (simp [up] <;> omega)) <| s_iload_n (dc kc_X12_keepWrite_2 24 rfl) rfl <| s_ishr (dc kc_X12_keepWrite_2 25 rfl) <| k_i (dc kc_X12_keepWrite_2 26 rfl) rfl <| s_iand (dc kc_X12_keepWrite_2 27 rfl) <| s_iastore (dc kc_X12_keepWrite_2 28 rfl) rfl (by first | omega | (simp [up] <;> omega)) (by first | omega | (simp [up] <;> omega)) <| r_aload_n (dc kc_X12_keepWrite_2 29 rfl) rfl <| s_getA (dc kc_X12_keepWrite_2 30 rfl) fl_X12_7 (ly_80_2 hL) <| s_iload (dc kc_X12_keepWrite_2 31 rfl) rfl <| k_i (dc kc_X12_keepWrite_2 32 rfl) rfl <| b_iadd (dc kc_X12_keepWrite_2 33 rfl) (by first | omega | (simp [up] <;> omega)) (by first | omega | (simp [up] <;> omega)) <| s_iload (dc kc_X12_keepWrite_2 34 rfl) rfl <| s_iastore (dc kc_X12_keepWrite_2 35 rfl) rfl (by first | omega | (simp [up] <;> omega)) (by first | omega | (simp [up] <;> omega)) <| r_aload_n (dc kc_X12_keepWrite_2 36 rfl) rfl <| s_getA (dc kc_X12_keepWrite_2 37 rfl) fl_X12_7 (ly_80_2 hL) <| s_iload (dc kc_X12_keepWrite_2 38 rfl) rfl <| k_b (dc kc_X12_keepWrite_2 39 rfl) rfl <| b_iadd (dc kc_X12_keepWrite_3 0 rfl) (by first | omega | (simp [up] <;> omega)) (by first | omega | (simp [up] <;> omega)) <| s_iload (dc kc_X12_keepWrite_3 1 rfl) rfl <| s_iastore (dc kc_X12_keepWrite_3 2 rfl) rfl (by first | omega | (simp [up] <;> omega)) (by first | omega | (simp [up] <;> omega)) <| r_aload_n (dc kc_X12_keepWrite_3 3 rfl) rfl <| s_getA (dc kc_X12_keepWrite_3 4 rfl) fl_X12_7 (ly_80_2 hL) <| k_b (dc kc_X12_keepWrite_3 5 rfl) rfl <| s_dup2 (dc kc_X12_keepWrite_3 6 rfl) rfl rfl <| s_iaload (dc kc_X12_keepWrite_3 7 rfl) rfl (by first | omega | (simp [up] <;> omega)) (by first | omega | (simp [up] <;> omega)) <| k_i (dc kc_X12_keepWrite_3 8 rfl) rfl <| b_iadd (dc kc_X12_keepWrite_3 9 rfl) (by first | omega | (simp [up] <;> omega)) (by first | omega | (simp [up] <;> omega)) <| s_iastore (dc kc_X12_keepWrite_3 10 rfl) rfl (by first | omega | (simp [up] <;> omega)) (by first | omega | (simp [up] <;> omega)) <| s_return (dc kc_X12_keepWrite_3 11 rfl) rfl (Nat.zero_le _) (Nat.zero_le _) ?_
    refine hQ _ ((((((((hCh.up rfl).up rfl).up rfl).up rfl).up rfl).up rfl).up rfl).up rfl) ?_
    unfold kw
    rw [← hrow]
    generalize e8 : mi1 0 81 8 = N at *
    simp only [up_ud]
    unfold kw1
    rw [e8]
    have eq1 : ud (ud (ud (mi1 0 81) (646 + 7 * N) s) (646 + 7 * N + 1) l) (646 + 7 * N + 2) c (30 + c) = mi1 0 81 (30 + c) := by
      rw [ud_ne (by omega), ud_ne (by omega), ud_ne (by omega)]
    have eq2 : ∀ x, ud (ud (ud (ud (mi1 0 81) (646 + 7 * N) s) (646 + 7 * N + 1) l) (646 + 7 * N + 2) c) (646 + 7 * N + 3) x 19 = mi1 0 81 19 := by
      intro x
      rw [ud_ne (by omega), ud_ne (by omega), ud_ne (by omega), ud_ne (by omega)]
    have eq3 : ∀ x y z w, ud (ud (ud (ud (ud (ud (ud (mi1 0 81) (646 + 7 * N) s) (646 + 7 * N + 1) l) (646 + 7 * N + 2) c) (646 + 7 * N + 3) x) (646 + 7 * N + 4) y) (646 + 7 * N + 5) z) (646 + 7 * N + 6) w 8 = N := by
      intro x y z w
      rw [ud_ne (by omega), ud_ne (by omega), ud_ne (by omega), ud_ne (by omega), ud_ne (by omega), ud_ne (by omega), ud_ne (by omega), e8]
    rw [eq1, eq2, eq3]
  refine r_aload_n (dc kc_X12_keepWrite_0 0 rfl) rfl <| s_getA (dc kc_X12_keepWrite_0 1 rfl) fl_X12_7 (ly_80_2 hL) <| k_b (dc kc_X12_keepWrite_0 2 rfl) rfl <| s_iaload (dc kc_X12_keepWrite_0 3 rfl) rfl (by first | omega | (simp [up] <;> omega)) (by first | omega | (simp [up] <;> omega)) <| k_s (dc kc_X12_keepWrite_0 4 rfl) rfl <| s_icmp_ne (tgt := 106) (dc kc_X12_keepWrite_0 5 rfl) rfl (fun c10 => (?_)) (fun c10 => (r_aload_n (dc kc_X12_keepWrite_0 6 rfl) rfl <| s_getA (dc kc_X12_keepWrite_0 7 rfl) fl_X12_7 (ly_80_2 hL) <| k_b (dc kc_X12_keepWrite_0 8 rfl) rfl <| r_aload_n (dc kc_X12_keepWrite_0 9 rfl) rfl <| s_getA (dc kc_X12_keepWrite_0 10 rfl) fl_X12_7 (ly_80_2 hL) <| k_s (dc kc_X12_keepWrite_0 11 rfl) rfl <| s_iaload (dc kc_X12_keepWrite_0 12 rfl) rfl (by first | omega | (simp [up] <;> omega)) (by first | omega | (simp [up] <;> omega)) <| r_aload_n (dc kc_X12_keepWrite_0 13 rfl) rfl <| s_getA (dc kc_X12_keepWrite_0 14 rfl) fl_X12_7 (ly_80_2 hL) <| k_b (dc kc_X12_keepWrite_0 15 rfl) rfl <| s_iaload (dc kc_X12_keepWrite_0 16 rfl) rfl (by first | omega | (simp [up] <;> omega)) (by first | omega | (simp [up] <;> omega)) <| s_icmp_le (tgt := 48) (dc kc_X12_keepWrite_0 17 rfl) rfl (fun c34 => (r_aload_n (dc kc_X12_keepWrite_0 23 rfl) rfl <| s_getA (dc kc_X12_keepWrite_0 24 rfl) fl_X12_7 (ly_80_2 hL) <| k_b (dc kc_X12_keepWrite_0 25 rfl) rfl <| s_iaload (dc kc_X12_keepWrite_0 26 rfl) rfl (by first | omega | (simp [up] <;> omega)) (by first | omega | (simp [up] <;> omega)) <| ?_)) (fun c34 => (r_aload_n (dc kc_X12_keepWrite_0 18 rfl) rfl <| s_getA (dc kc_X12_keepWrite_0 19 rfl) fl_X12_7 (ly_80_2 hL) <| k_s (dc kc_X12_keepWrite_0 20 rfl) rfl <| s_iaload (dc kc_X12_keepWrite_0 21 rfl) rfl (by first | omega | (simp [up] <;> omega)) (by first | omega | (simp [up] <;> omega)) <| s_goto (tgt := 55) (dc kc_X12_keepWrite_0 22 rfl) rfl <| ?_))))
  · refine fin mi _ Ch.rf ?_
    unfold kw0
    rw [if_neg c10]
  all_goals
    refine s_iastore (dc kc_X12_keepWrite_0 27 rfl) rfl (by first | omega | (simp [up] <;> omega)) (by first | omega | (simp [up] <;> omega)) <| k_i (dc kc_X12_keepWrite_0 28 rfl) rfl <| t_i6 (dc kc_X12_keepWrite_0 29 rfl) (Nat.le_of_ble_eq_true rfl) rfl <| ?_
    refine keep_loop (mi0 := up mi 0 81 20 (if mi 0 81 20 < mi 0 81 646 then mi 0 81 646 else mi 0 81 20)) hL (fun mi1 g1 g2 => ?_) 0 (Nat.zero_le _) _ (by first | (rw [if_pos (by omega)]; exact Ch.rf) | (rw [if_neg (by omega)]; exact Ch.rf)) (by intro j; rw [if_neg (by omega)]; first | rw [if_pos (by omega)] | rw [if_neg (by omega)])
    have h8 : mi1 0 81 8 = 200 := by rw [g2, if_neg (by omega), up_ud, ud_ne (by omega)]; exact c10
    refine r_aload_n (dc kc_X12_keepWrite_1 7 rfl) rfl <| s_getA (dc kc_X12_keepWrite_1 8 rfl) fl_X12_7 (ly_80_2 hL) <| k_b (dc kc_X12_keepWrite_1 9 rfl) rfl <| s_dup2 (dc kc_X12_keepWrite_1 10 rfl) rfl rfl <| s_iaload (dc kc_X12_keepWrite_1 11 rfl) rfl (by first | omega | (simp [up] <;> omega)) (by first | omega | (simp [up] <;> omega)) <| k_i (dc kc_X12_keepWrite_1 12 rfl) rfl <| b_isub (dc kc_X12_keepWrite_1 13 rfl) (by first | omega | (simp [up] <;> omega)) (by first | omega | (simp [up] <;> omega)) <| s_iastore (dc kc_X12_keepWrite_1 14 rfl) rfl (by first | omega | (simp [up] <;> omega)) (by first | omega | (simp [up] <;> omega)) <| ?_
    refine fin _ _ (((Ch.rf.up rfl).tr g1).up rfl) ?_
    rw [up_ud, h8]
    unfold kw0
    rw [if_pos c10]
    funext i
    by_cases e8 : i = 8
    · subst e8; rw [ud_at]; rfl
    · rw [ud_ne e8, g2, up_ud]
      by_cases e6 : 646 ≤ i ∧ i < 2039
      · rw [if_pos e6, if_pos e6, ud_ne (by omega)]
      · rw [if_neg e6, if_neg e6]
        by_cases e2 : i = 20
        · rw [if_pos e2, e2, ud_at]
        · rw [if_neg e2, ud_ne e2, if_neg e8]
theorem t_flipCell (hL : Lay G mr) {mi : MI} {c v : Int} (h0 : 0 ≤ mi 0 81 8) (h1 : mi 0 81 8 ≤ 200) (hc0 : 0 ≤ c) (hc1 : c < 24) (hQ : ∀ mi', Ch (fun j k => j == 81 || (j == 80 && k == 33)) mi mi' → mi' 0 81 = ud (kw (mi 0 81) (mi 0 81 0) (-1) c v 0) (30 + c) v → mi' 0 80 33 = 0 → Q (vX 0) mi' n mr) : Tx (d+2) mt_X12_flipCell [vR (some (0, 80)), vI c, vI v] mi n mr Q := by
  refine tx_intro (ls := [vR (some (0, 80)), vI c, vI v]) om_X12_flipCell rfl (Nat.le_of_ble_eq_true rfl) ?_
  refine r_aload_n (dc kc_X12_flipCell 0 rfl) rfl <| r_aload_n (dc kc_X12_flipCell 1 rfl) rfl <| s_getA (dc kc_X12_flipCell 2 rfl) fl_X12_7 (ly_80_2 hL) <| k_i (dc kc_X12_flipCell 3 rfl) rfl <| s_iaload (dc kc_X12_flipCell 4 rfl) rfl (by first | omega | (simp [up] <;> omega)) (by first | omega | (simp [up] <;> omega)) <| k_i (dc kc_X12_flipCell 5 rfl) rfl <| s_iload_n (dc kc_X12_flipCell 6 rfl) rfl <| s_iload_n (dc kc_X12_flipCell 7 rfl) rfl <| k_i (dc kc_X12_flipCell 8 rfl) rfl <| c_v5 (dc kc_X12_flipCell 9 rfl) cl_X12_390 rfl (Nat.le_of_ble_eq_true rfl) (Nat.zero_le _) (Nat.zero_le _) ?_
  refine t_keepWrite hL h0 h1 hc0 hc1 (fun mi1 g1 g2 => ?_)
  refine r_aload_n (dc kc_X12_flipCell 10 rfl) rfl <| s_getA (dc kc_X12_flipCell 11 rfl) fl_X12_7 (ly_80_2 hL) <| k_b (dc kc_X12_flipCell 12 rfl) rfl <| s_iload_n (dc kc_X12_flipCell 13 rfl) rfl <| b_iadd (dc kc_X12_flipCell 14 rfl) (by first | omega | (simp [up] <;> omega)) (by first | omega | (simp [up] <;> omega)) <| s_iload_n (dc kc_X12_flipCell 15 rfl) rfl <| s_iastore (dc kc_X12_flipCell 16 rfl) rfl (by first | omega | (simp [up] <;> omega)) (by first | omega | (simp [up] <;> omega)) <| r_aload_n (dc kc_X12_flipCell 17 rfl) rfl <| k_i (dc kc_X12_flipCell 18 rfl) rfl <| s_putI (dc kc_X12_flipCell 19 rfl) fl_X12_100 <| s_return (dc kc_X12_flipCell 20 rfl) rfl (Nat.zero_le _) (Nat.zero_le _) ?_
  refine hQ _ (((g1.mono (fun j k h => by simp only [p81] at h; simp [h])).up rfl).up rfl) ?_ (by rw [up_at])
  rw [up_j (by decide), up_ud, g2]
end REF8
