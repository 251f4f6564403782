/-! the class: which laws are asked; one step -/
/-- a mask asks just these laws -/
def AskM (x : Int) (A : Int → Int) (N : Nat) : Prop := rg x ∧ ∀ l : Int, 0 ≤ l → l < 32 → (bAnd (bShr x l) 1 = 1 ↔ l < N ∧ A l = 1)
theorem bits01 {x l : Int} (h0 : 0 ≤ l) (h1 : l < 32) : bAnd (bShr x l) 1 = 0 ∨ bAnd (bShr x l) 1 = 1 := by rw [bit_is h0 h1]; split <;> simp
theorem Bm.bit1 {x a : Int} {L : List Int} (h : Bm x L) (h0 : 0 ≤ a) (h1 : a < 32) : bAnd (bShr x a) 1 = 1 ↔ a ∈ L := by
  have hb := h.bit h0 h1
  have := bits01 (x := x) h0 h1
  constructor
  · intro z
    refine Classical.byContradiction fun w => ?_
    have := hb.mpr w
    omega
  · intro z
    rcases this with w | w
    · exact absurd z (hb.mp w)
    · exact w
/-- an AND with one bit -/
theorem and_bit {x a : Int} {L : List Int} (h : Bm x L) (h0 : 0 ≤ a) (h1 : a < 32) : bAnd x (bShl 1 a) ≠ 0 ↔ a ∈ L := by
  constructor
  · intro z
    refine Classical.byContradiction fun w => z ?_
    refine tB_ext (bAnd_rg _ _) ⟨by decide, by decide⟩ (fun i hi => ?_)
    rw [tB_and, tB_bit h0 h1 hi, tB_0]
    by_cases e : i = a.toNat
    · have : tB x i ≠ true := fun q => w (by have := (h.2 i hi).mp q; rw [e, Int.toNat_of_nonneg h0] at this; exact this)
      cases hq : tB x i with
      | true => exact absurd hq this
      | false => rfl
    · simp [e]
  · intro z q
    have h2 := (h.2 a.toNat (by omega)).mpr (by rw [Int.toNat_of_nonneg h0]; exact z)
    have : tB (bAnd x (bShl 1 a)) a.toNat = true := by rw [tB_and, tB_bit h0 h1 (by omega), h2]; simp
    rw [q, tB_0] at this
    cases this
section ST5
variable {d n G : Nat} {mr : MR} {Q : V → MI → Nat → MR → Prop}
theorem u_targetOf (hL : Lay G mr) {mi : MI} {x : Nat} {j : Int} (hx : okI G 20 x) (h0 : 0 ≤ j) (h1 : j < mi x 20 0) (h12 : mi x 20 0 ≤ 12) (hQ : Q (vI (mi x 26 j)) mi n mr) : Tx (d+2) mt_X8_targetOf [vR (some (x, 20)), vI j] mi n mr Q := by
  refine tx_intro (ls := [vR (some (x, 20)), vI j]) om_X8_targetOf rfl (Nat.le_of_ble_eq_true rfl) ?_
  refine r_aload_n (dc kc_X8_targetOf 0 rfl) rfl <| s_iload_n (dc kc_X8_targetOf 1 rfl) rfl <| c_v1r (dc kc_X8_targetOf 2 rfl) cl_X8_46 rfl (Nat.le_of_ble_eq_true rfl) (Nat.zero_le _) (Nat.zero_le _) <| u_has <| s_if_eqb (tgt := 17) (dc kc_X8_targetOf 3 rfl) rfl (fun c5 => (k_b (dc kc_X8_targetOf 9 rfl) rfl <| s_ireturn (dc kc_X8_targetOf 10 rfl) rfl (Nat.zero_le _) (Nat.zero_le _) ?_)) (fun c5 => (r_aload_n (dc kc_X8_targetOf 4 rfl) rfl <| s_getA (dc kc_X8_targetOf 5 rfl) fl_X8_34 (ly_20_7 hL (by assumption)) <| s_iload_n (dc kc_X8_targetOf 6 rfl) rfl <| s_iaload (dc kc_X8_targetOf 7 rfl) rfl (by first | omega | (simp [up] <;> omega)) (by first | omega | (simp [up] <;> omega)) <| s_goto (tgt := 19) (dc kc_X8_targetOf 8 rfl) rfl <| s_ireturn (dc kc_X8_targetOf 10 rfl) rfl (Nat.zero_le _) (Nat.zero_le _) ?_))
  · exact absurd ⟨h0, h1⟩ c5
  · exact hQ
/-- bearing on laws, as bits -/
theorem brsF_M {ρ : Int → Int} {j : Int} : ∀ N : Nat, N ≤ 31 → AskM (brsF ρ j N) (fun l => bi (tgtOf ρ j ∈ needL (lawC ρ l))) N
  | 0, _ => ⟨⟨by rw [brsF]; decide, by rw [brsF]; decide⟩, fun l a b => by
    rw [brsF, bit1 a b, tB_0]
    exact ⟨fun h => (by cases h), fun h => absurd h.1 (by omega)⟩⟩
  | N + 1, h => by
    have ih := brsF_M (ρ := ρ) (j := j) N (by omega)
    refine ⟨bOr_rg _ _, fun l a b => ?_⟩
    have := ih.2 l a b
    rw [bit1 a b] at this ⊢
    rw [brsF, tB_or, Bool.or_eq_true, this]
    by_cases e : tgtOf ρ j ∈ needL (lawC ρ N)
    · rw [if_pos e, tB_bit (by omega) (by omega) (by omega), decide_eq_true_eq, Int.toNat_natCast]
      constructor
      · rintro (⟨h1, h2⟩ | h1)
        · exact ⟨by omega, h2⟩
        · have : l = N := by omega
          rw [this]; exact ⟨by omega, bi_t e⟩
      · rintro ⟨h1, h2⟩
        by_cases el : l = N
        · exact Or.inr (by omega)
        · exact Or.inl ⟨by omega, h2⟩
    · rw [if_neg e, tB_0]
      constructor
      · rintro (⟨h1, h2⟩ | h1)
        · exact ⟨by omega, h2⟩
        · cases h1
      · rintro ⟨h1, h2⟩
        by_cases el : l = N
        · rw [el] at h2
          have h2 := bi_eq1.mp h2
          exact absurd h2 e
        · exact Or.inl ⟨by omega, h2⟩
theorem u_bearsOn (hL : Lay G mr) {e : Int} {mi : MI} {g : Nat} {ρ : Int → Int} (hg : g < G) {j : Int} (hR : RepL mi g ρ) (hN : RepN mi g ρ) (h16 : 0 ≤ ρ 16 ∧ ρ 16 ≤ 12) (h17 : ρ 17 ≤ 12) (hj0 : 0 ≤ j) (hj1 : j < ρ 17) (hw : WfTgt ρ j) (hQ : Q (vI (brsF ρ j (ρ 16).toNat)) mi n mr) : Tx (d+3) mt_X7_bearsOn [vR (some (g, 5)), vI j] mi n mr Q := by
  have hok : okI G 5 g := hg
  have hok2 : okI G 20 g := Or.inl hg
  have hok3 : okI G 20 (g + 10) := Or.inr (Or.inl ⟨by omega, by omega⟩)
  refine tx_intro (ls := [vR (some (g, 5)), vI j, vX 0, vX 0, vX 0]) om_X7_bearsOn rfl (Nat.le_of_ble_eq_true rfl) ?_
  have et : mi (g + 10) 26 j = tgtOf ρ j := (hN.2 j hj0 hj1).1
  have e17 := hN.1
  have e16 := hR.1
  have htr := hw.rg
  have loop : ∀ l : Nat, l ≤ (ρ 16).toNat → Run (d+3) mt_X7_bearsOn Q (n, mr, 0, 0) mi 16 [vR (some (g, 5)), vI j, vI (bShl 1 (tgtOf ρ j)), vI (brsF ρ j l), vI (l : Int)] [] := by
    refine nloop ?_
    intro l hl ih
    by_cases he : (l : Int) < ρ 16
    · have hb := (hR.2 l (by omega) he).2
      have ih := ih (by omega)
      rw [brsF] at ih
      refine s_iload (dc kc_X7_bearsOn 11 rfl) rfl <| r_aload_n (dc kc_X7_bearsOn 12 rfl) rfl <| s_getO (dc kc_X7_bearsOn 13 rfl) fl_X7_21 (ly_5_1 hL (by assumption)) <| s_getI (dc kc_X7_bearsOn 14 rfl) fl_X7_157 <| s_icmp_ge (tgt := 56) (dc kc_X7_bearsOn 15 rfl) rfl (fun c25 => (?_)) (fun c25 => (r_aload_n (dc kc_X7_bearsOn 16 rfl) rfl <| s_getO (dc kc_X7_bearsOn 17 rfl) fl_X7_21 (ly_5_1 hL (by assumption)) <| s_getA (dc kc_X7_bearsOn 18 rfl) fl_X7_160 (ly_20_8 hL (by assumption)) <| s_iload (dc kc_X7_bearsOn 19 rfl) rfl <| s_iaload (dc kc_X7_bearsOn 20 rfl) rfl (by first | omega | (simp [up] <;> omega)) (by first | omega | (simp [up] <;> omega)) <| s_iload_n (dc kc_X7_bearsOn 21 rfl) rfl <| s_iand (dc kc_X7_bearsOn 22 rfl) <| s_if_eq (tgt := 50) (dc kc_X7_bearsOn 23 rfl) rfl (fun c40 => (b_inc4 (dc kc_X7_bearsOn 30 rfl) rfl (Nat.le_of_ble_eq_true rfl) rfl (by first | omega | (simp [up] <;> omega)) (by first | omega | (simp [up] <;> omega)) <| s_goto (tgt := 16) (dc kc_X7_bearsOn 31 rfl) rfl <| ?_)) (fun c40 => (s_iload_n (dc kc_X7_bearsOn 24 rfl) rfl <| k_i (dc kc_X7_bearsOn 25 rfl) rfl <| s_iload (dc kc_X7_bearsOn 26 rfl) rfl <| s_ishl (dc kc_X7_bearsOn 27 rfl) <| s_ior (dc kc_X7_bearsOn 28 rfl) <| t_i3 (dc kc_X7_bearsOn 29 rfl) (Nat.le_of_ble_eq_true rfl) rfl <| b_inc4 (dc kc_X7_bearsOn 30 rfl) rfl (Nat.le_of_ble_eq_true rfl) rfl (by first | omega | (simp [up] <;> omega)) (by first | omega | (simp [up] <;> omega)) <| s_goto (tgt := 16) (dc kc_X7_bearsOn 31 rfl) rfl <| ?_))))
      · exfalso; omega
      · have hn : tgtOf ρ j ∉ needL (lawC ρ l) := fun z => (and_bit hb htr.1 (by omega)).mpr z c40
        rw [if_neg hn] at ih
        have e0 : bOr (brsF ρ j l) 0 = brsF ρ j l := tB_ext (bOr_rg _ _) (brsF_M l (by omega)).1 (fun i _ => by rw [tB_or, tB_0, Bool.or_false])
        rw [e0] at ih
        exact ih
      · rw [if_pos ((and_bit hb htr.1 (by omega)).mp c40)] at ih
        exact ih
    · refine s_iload (dc kc_X7_bearsOn 11 rfl) rfl <| r_aload_n (dc kc_X7_bearsOn 12 rfl) rfl <| s_getO (dc kc_X7_bearsOn 13 rfl) fl_X7_21 (ly_5_1 hL (by assumption)) <| s_getI (dc kc_X7_bearsOn 14 rfl) fl_X7_157 <| s_icmp_ge (tgt := 56) (dc kc_X7_bearsOn 15 rfl) rfl (fun c25 => (s_iload_n (dc kc_X7_bearsOn 32 rfl) rfl <| s_ireturn (dc kc_X7_bearsOn 33 rfl) rfl (Nat.zero_le _) (Nat.zero_le _) ?_)) (fun c25 => (?_))
      · rw [show l = (ρ 16).toNat by omega]; exact hQ
      · exfalso; omega
  refine k_i (dc kc_X7_bearsOn 0 rfl) rfl <| r_aload_n (dc kc_X7_bearsOn 1 rfl) rfl <| s_getO (dc kc_X7_bearsOn 2 rfl) fl_X7_25 (ly_5_2 hL (by assumption)) <| s_iload_n (dc kc_X7_bearsOn 3 rfl) rfl <| c_v1r (dc kc_X7_bearsOn 4 rfl) cl_X7_154 rfl (Nat.le_of_ble_eq_true rfl) (Nat.zero_le _) (Nat.zero_le _) ?_
  refine u_targetOf hL hok3 hj0 (by omega) (by omega) ?_
  rw [et]
  refine s_ishl (dc kc_X7_bearsOn 5 rfl) <| t_i2 (dc kc_X7_bearsOn 6 rfl) (Nat.le_of_ble_eq_true rfl) rfl <| k_i (dc kc_X7_bearsOn 7 rfl) rfl <| t_i3 (dc kc_X7_bearsOn 8 rfl) (Nat.le_of_ble_eq_true rfl) rfl <| k_i (dc kc_X7_bearsOn 9 rfl) rfl <| t_i4 (dc kc_X7_bearsOn 10 rfl) (Nat.le_of_ble_eq_true rfl) rfl <| ?_
  exact loop 0 (Nat.zero_le _)
theorem u_isWithin {mi : MI} {g : Nat} {l : Int} (hQ : Q (vI (bi (mi g 40 1 ≤ l ∧ l < mi g 40 2))) mi n mr) : Tx (d+1) mt_X9_isWithinRoutine [vR (some (g, 40)), vI l] mi n mr Q := by
  refine tx_intro (ls := [vR (some (g, 40)), vI l]) om_X9_isWithinRoutine rfl (Nat.le_of_ble_eq_true rfl) ?_
  refine s_iload_n (dc kc_X9_isWithinRoutine 0 rfl) rfl <| r_aload_n (dc kc_X9_isWithinRoutine 1 rfl) rfl <| s_getI (dc kc_X9_isWithinRoutine 2 rfl) fl_X9_15 <| s_icmp_lt (tgt := 20) (dc kc_X9_isWithinRoutine 3 rfl) rfl (fun c5 => (k_i (dc kc_X9_isWithinRoutine 10 rfl) rfl <| s_zreturn (dc kc_X9_isWithinRoutine 11 rfl) rfl (by first | exact Or.inl rfl | exact Or.inr rfl | exact bi_01 | assumption) (Nat.zero_le _) (Nat.zero_le _) ?_)) (fun c5 => (s_iload_n (dc kc_X9_isWithinRoutine 4 rfl) rfl <| r_aload_n (dc kc_X9_isWithinRoutine 5 rfl) rfl <| s_getI (dc kc_X9_isWithinRoutine 6 rfl) fl_X9_18 <| s_icmp_ge (tgt := 20) (dc kc_X9_isWithinRoutine 7 rfl) rfl (fun c13 => (k_i (dc kc_X9_isWithinRoutine 10 rfl) rfl <| s_zreturn (dc kc_X9_isWithinRoutine 11 rfl) rfl (by first | exact Or.inl rfl | exact Or.inr rfl | exact bi_01 | assumption) (Nat.zero_le _) (Nat.zero_le _) ?_)) (fun c13 => (k_i (dc kc_X9_isWithinRoutine 8 rfl) rfl <| s_goto (tgt := 21) (dc kc_X9_isWithinRoutine 9 rfl) rfl <| s_zreturn (dc kc_X9_isWithinRoutine 11 rfl) rfl (by first | exact Or.inl rfl | exact Or.inr rfl | exact bi_01 | assumption) (Nat.zero_le _) (Nat.zero_le _) ?_))))
  all_goals (first | (rw [bi_t (by omega)] at hQ; exact hQ) | (rw [bi_f (by omega)] at hQ; exact hQ))
/-- the laws that are asked behind a step, as a mask -/
theorem u_lawsToAsk (hL : Lay G mr) {mi : MI} {g : Nat} {σ ρ : Int → Int} (hg : g < G) {o : Int} (rL : RepL mi g σ) (rN : RepN mi g σ) (e11 : mi g 40 0 = ρ 11) (e12 : mi g 40 1 = ρ 12) (e13 : ρ 12 ≠ -1 → mi g 40 2 = ρ 13) (e13' : ρ 12 = -1 → mi g 40 2 = -1) (h16 : 0 ≤ ρ 16 ∧ ρ 16 ≤ 12) (h17 : 0 < ρ 17 ∧ ρ 17 ≤ 12) (s16 : σ 16 = ρ 16) (s17 : σ 17 = ρ 17) (hhi : hiEq ρ σ) (hwf : WfR ρ) (h0 : 0 ≤ ρ 0 ∧ ρ 0 ≤ 1000000) (h7 : 0 ≤ ρ 7 ∧ ρ 7 < ρ 17) (h11 : 0 ≤ ρ 11 ∧ ρ 11 ≤ 3) (h12 : ρ 12 = -1 ∨ 0 ≤ ρ 12) (ho : (o = 0 ∨ o = 1) ↔ (rcS ρ = 1 ∨ rcS ρ = 2)) (hQ : ∀ x, (rstI ρ = 1 → x = 0) → (rstI ρ ≠ 1 → AskM x (aS ρ) (ρ 16).toNat) → Q (vI x) mi n mr) : Tx (d+4) mt_X7_lawsToAsk [vR (some (g, 5)), vI (ρ 0), vI (ρ 7), vI o] mi n mr Q := by
  have hok : okI G 5 g := hg
  have hok2 : okI G 20 g := Or.inl hg
  have hok4 : okI G 40 g := hg
  have eN : mi g 20 0 = ρ 16 := by rw [rL.1, s16]
  refine tx_intro (ls := [vR (some (g, 5)), vI (ρ 0), vI (ρ 7), vI o]) om_X7_lawsToAsk rfl (Nat.le_of_ble_eq_true rfl) ?_
  have zero : (∀ l, 0 ≤ l → l < ρ 16 → aS ρ l = 0) → AskM 0 (aS ρ) (ρ 16).toNat := fun h => ⟨⟨by decide, by decide⟩, fun l a b => by
    rw [bit1 a b, tB_0]
    refine ⟨fun h => (by cases h), fun z => ?_⟩
    have := h l a (by omega)
    omega⟩
  refine r_aload_n (dc kc_X7_lawsToAsk_0 0 rfl) rfl <| s_getO (dc kc_X7_lawsToAsk_0 1 rfl) fl_X7_38 (ly_5_4 hL (by assumption)) <| s_iload_n (dc kc_X7_lawsToAsk_0 2 rfl) rfl <| c_v1r (dc kc_X7_lawsToAsk_0 3 rfl) cl_X7_163 rfl (Nat.le_of_ble_eq_true rfl) (Nat.zero_le _) (Nat.zero_le _) ?_
  refine u_isWithin ?_
  have hwi : (mi g 40 1 ≤ ρ 7 ∧ ρ 7 < mi g 40 2) ↔ rstI ρ = 1 := by
    unfold rstI
    rw [bi_eq1, e12]
    by_cases e : ρ 12 = -1
    · rw [e13' e]; omega
    · rw [e13 e]; omega
  refine s_if_eq (tgt := 13) (dc kc_X7_lawsToAsk_0 4 rfl) rfl (fun c8 => (?_)) (fun c8 => (k_i (dc kc_X7_lawsToAsk_0 5 rfl) rfl <| s_ireturn (dc kc_X7_lawsToAsk_0 6 rfl) rfl (Nat.zero_le _) (Nat.zero_le _) ?_))
  · have hnr : rstI ρ ≠ 1 := fun z => bi_eq0.mp c8 (hwi.mpr z)
    have hq : ∀ x, AskM x (aS ρ) (ρ 16).toNat → Q (vI x) mi n mr := fun x hx => hQ x (fun z => absurd z hnr) (fun _ => hx)
    have hc : ρ 11 = 0 ∨ ρ 11 = 1 ∨ ρ 11 = 2 ∨ ρ 11 = 3 := by omega
    rcases hc with e | e | e | e
    · refine r_aload_n (dc kc_X7_lawsToAsk_0 7 rfl) rfl <| s_getO (dc kc_X7_lawsToAsk_0 8 rfl) fl_X7_38 (ly_5_4 hL (by assumption)) <| s_getI (dc kc_X7_lawsToAsk_0 9 rfl) fl_X7_166 <| s_tabD (tgt := 105) (dc kc_X7_lawsToAsk_0 10 rfl) ?_ rfl <| k_i (dc kc_X7_lawsToAsk_1 4 rfl) rfl <| s_ireturn (dc kc_X7_lawsToAsk_1 5 rfl) rfl (Nat.zero_le _) (Nat.zero_le _) ?_
      · rw [e11, e]; decide
      · refine hq 0 (zero (fun l a b => ?_))
        unfold aS; rw [bi_f]; omega
    · have hbe : ∀ l : Int, aS ρ l = bi (rcS ρ ≠ 1 ∧ rcS ρ ≠ 2 ∧ tgtOf ρ (ρ 7) ∈ needL (lawC ρ l)) := fun l => by
        unfold aS
        refine bi_congr ⟨fun z => ?_, fun z => Or.inr (Or.inl ⟨e, z⟩)⟩
        rcases z with z | z | z
        · omega
        · exact z.2
        · omega
      have h0' : (rcS ρ = 1 ∨ rcS ρ = 2) → Q (vI 0) mi n mr := fun z => hq 0 (zero (fun l a b => by rw [hbe, bi_f]; omega))
      refine r_aload_n (dc kc_X7_lawsToAsk_0 7 rfl) rfl <| s_getO (dc kc_X7_lawsToAsk_0 8 rfl) fl_X7_38 (ly_5_4 hL (by assumption)) <| s_getI (dc kc_X7_lawsToAsk_0 9 rfl) fl_X7_166 <| s_tabC (k0 := 1) (tgt := 48) (dc kc_X7_lawsToAsk_0 10 rfl) ?_ rfl rfl rfl <| s_iload_n (dc kc_X7_lawsToAsk_0 11 rfl) rfl <| s_if_eq (tgt := 57) (dc kc_X7_lawsToAsk_0 12 rfl) rfl (fun c49 => (k_i (dc kc_X7_lawsToAsk_0 16 rfl) rfl <| s_goto (tgt := 66) (dc kc_X7_lawsToAsk_0 17 rfl) rfl <| s_ireturn (dc kc_X7_lawsToAsk_0 21 rfl) rfl (Nat.zero_le _) (Nat.zero_le _) ?_)) (fun c49 => (s_iload_n (dc kc_X7_lawsToAsk_0 13 rfl) rfl <| k_i (dc kc_X7_lawsToAsk_0 14 rfl) rfl <| s_icmp_ne (tgt := 61) (dc kc_X7_lawsToAsk_0 15 rfl) rfl (fun c54 => (r_aload_n (dc kc_X7_lawsToAsk_0 18 rfl) rfl <| s_iload_n (dc kc_X7_lawsToAsk_0 19 rfl) rfl <| c_v1r (dc kc_X7_lawsToAsk_0 20 rfl) cl_X7_169 rfl (Nat.le_of_ble_eq_true rfl) (Nat.zero_le _) (Nat.zero_le _) ?_)) (fun c54 => (k_i (dc kc_X7_lawsToAsk_0 16 rfl) rfl <| s_goto (tgt := 66) (dc kc_X7_lawsToAsk_0 17 rfl) rfl <| s_ireturn (dc kc_X7_lawsToAsk_0 21 rfl) rfl (Nat.zero_le _) (Nat.zero_le _) ?_))))
      · rw [e11, e]
      · exact h0' (ho.mp (Or.inl c49))
      · have hno : ¬ (rcS ρ = 1 ∨ rcS ρ = 2) := fun z => by have := ho.mpr z; omega
        have hw := hwf.2 (ρ 7) h7.1 h7.2
        refine u_bearsOn (e := 0) hL hg rL rN (by rw [s16]; exact h16) (by rw [s17]; exact h17.2) h7.1 (by rw [s17]; exact h7.2) (hw.hi hhi h7.1).1 ?_
        refine s_ireturn (dc kc_X7_lawsToAsk_0 21 rfl) rfl (Nat.zero_le _) (Nat.zero_le _) ?_
        have hm := brsF_M (ρ := σ) (j := ρ 7) (σ 16).toNat (by omega)
        rw [s16] at hm ⊢
        refine hq _ ⟨hm.1, fun l a b => ?_⟩
        rw [hm.2 l a b, hbe, tgtOf_hi hhi h7.1]
        constructor
        · rintro ⟨z1, z2⟩
          simp only [] at z2
          rw [lawC_hi hhi a (fun z => ((hwf.1 l a (by omega)).2.2.1 z).1), bi_eq1] at z2
          exact ⟨z1, bi_t ⟨fun q => hno (Or.inl q), fun q => hno (Or.inr q), z2⟩⟩
        · rintro ⟨z1, z2⟩
          rw [bi_eq1] at z2
          simp only []
          rw [lawC_hi hhi a (fun z => ((hwf.1 l a (by omega)).2.2.1 z).1)]
          exact ⟨z1, bi_t z2.2.2⟩
      · exact h0' (ho.mp (Or.inr c54))
    · have hae : ∀ l : Int, aS ρ l = bi (l = ρ 0 % ρ 16) := fun l => by
        unfold aS
        refine bi_congr ⟨fun z => by omega, fun z => Or.inr (Or.inr ⟨e, z⟩)⟩
      refine r_aload_n (dc kc_X7_lawsToAsk_0 7 rfl) rfl <| s_getO (dc kc_X7_lawsToAsk_0 8 rfl) fl_X7_38 (ly_5_4 hL (by assumption)) <| s_getI (dc kc_X7_lawsToAsk_0 9 rfl) fl_X7_166 <| s_tabC (k0 := 2) (tgt := 67) (dc kc_X7_lawsToAsk_0 10 rfl) ?_ rfl rfl rfl <| r_aload_n (dc kc_X7_lawsToAsk_0 22 rfl) rfl <| s_getO (dc kc_X7_lawsToAsk_0 23 rfl) fl_X7_21 (ly_5_1 hL (by assumption)) <| s_getI (dc kc_X7_lawsToAsk_0 24 rfl) fl_X7_157 <| s_if_le (tgt := 91) (dc kc_X7_lawsToAsk_0 25 rfl) rfl (fun c74 => (k_i (dc kc_X7_lawsToAsk_0 34 rfl) rfl <| s_ireturn (dc kc_X7_lawsToAsk_0 35 rfl) rfl (Nat.zero_le _) (Nat.zero_le _) ?_)) (fun c74 => (k_i (dc kc_X7_lawsToAsk_0 26 rfl) rfl <| s_iload_n (dc kc_X7_lawsToAsk_0 27 rfl) rfl <| r_aload_n (dc kc_X7_lawsToAsk_0 28 rfl) rfl <| s_getO (dc kc_X7_lawsToAsk_0 29 rfl) fl_X7_21 (ly_5_1 hL (by assumption)) <| s_getI (dc kc_X7_lawsToAsk_0 30 rfl) fl_X7_157 <| b_irem (dc kc_X7_lawsToAsk_0 31 rfl) (by first | omega | (simp [up] <;> omega)) (by first | omega | (simp [up] <;> omega)) <| s_ishl (dc kc_X7_lawsToAsk_0 32 rfl) <| s_goto (tgt := 92) (dc kc_X7_lawsToAsk_0 33 rfl) rfl <| s_ireturn (dc kc_X7_lawsToAsk_0 35 rfl) rfl (Nat.zero_le _) (Nat.zero_le _) ?_))
      · rw [e11, e]
      · rw [eN] at c74
        exact hq 0 (zero (fun l a b => by omega))
      · rw [eN] at c74 ⊢
        have hm1 : 0 ≤ ρ 0 % ρ 16 := Int.emod_nonneg _ (by omega)
        have hm2 : ρ 0 % ρ 16 < ρ 16 := Int.emod_lt_of_pos _ (by omega)
        refine hq _ ⟨bShl_rg _ _, fun l a b => ?_⟩
        rw [(Bm.one hm1 (by omega)).bit1 a b, List.mem_singleton, hae, bi_eq1]
        constructor
        · intro z; exact ⟨by omega, z⟩
        · intro z; exact z.2
    · have hae : ∀ l : Int, aS ρ l = 1 := fun l => by unfold aS; exact bi_t (Or.inl e)
      have hshl : ∀ N : Nat, N ≤ 12 → 1 ≤ bShl 1 N ∧ bShl 1 N ≤ 4096 ∧ ∀ l : Nat, l < 32 → (bAnd (bShr (bShl 1 N - 1) l) 1 = 1 ↔ l < N) := by decide +kernel
      have hsN := hshl (ρ 16).toNat (by omega)
      rw [show (((ρ 16).toNat : Nat) : Int) = ρ 16 by omega] at hsN
      rw [← eN] at hsN
      refine r_aload_n (dc kc_X7_lawsToAsk_0 7 rfl) rfl <| s_getO (dc kc_X7_lawsToAsk_0 8 rfl) fl_X7_38 (ly_5_4 hL (by assumption)) <| s_getI (dc kc_X7_lawsToAsk_0 9 rfl) fl_X7_166 <| s_tabC (k0 := 3) (tgt := 93) (dc kc_X7_lawsToAsk_0 10 rfl) ?_ rfl rfl rfl <| k_i (dc kc_X7_lawsToAsk_0 36 rfl) rfl <| r_aload_n (dc kc_X7_lawsToAsk_0 37 rfl) rfl <| s_getO (dc kc_X7_lawsToAsk_0 38 rfl) fl_X7_21 (ly_5_1 hL (by assumption)) <| s_getI (dc kc_X7_lawsToAsk_0 39 rfl) fl_X7_157 <| s_ishl (dc kc_X7_lawsToAsk_1 0 rfl) <| k_i (dc kc_X7_lawsToAsk_1 1 rfl) rfl <| b_isub (dc kc_X7_lawsToAsk_1 2 rfl) (by first | omega | (simp [up] <;> omega)) (by first | omega | (simp [up] <;> omega)) <| s_ireturn (dc kc_X7_lawsToAsk_1 3 rfl) rfl (Nat.zero_le _) (Nat.zero_le _) ?_
      · rw [e11, e]
      · refine hq _ ⟨⟨by omega, by omega⟩, fun l a b => ?_⟩
        have := hsN.2.2 l.toNat (by omega)
        rw [Int.toNat_of_nonneg a] at this
        rw [this, hae]
        omega
  · exact hQ 0 (fun _ => rfl) (fun z => absurd (hwi.mp (bi_ne0.mp c8)) z)
end ST5
